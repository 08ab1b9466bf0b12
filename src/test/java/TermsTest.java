/** The terms ahead of promise 1, sentence by sentence, for ordinary inputs; the *EdgesTest classes have their edges. */
public final class TermsTest {
    private static final String[] KINDS = {"SUM", "LESS", "REST", "ODD", "OTHER", "MORE", "NEAR"};

    public static void main(String[] args) {
        findings();
        findingsChangeNothing();
        sets();
        texts();
        faults();
        sumsAndKinds();
        whoSolves();
        hard();
        partsOfPrisoners();
        dayAtFirst();
        work();
        answersAreSold();
        lipsAreRead();
        theDoor();
        ahead();
        draws();
        spotsAndSheets();
        Edge.finish(1, 0);
    }

    private static void findings() {
        Edge.says(0, "FINDINGS are answers below -1000000: LOW is -1000001; LOW BEYOND, LOW - 1 FULL, LOW - 2 KIND, "
                + "LOW - 3 NONE, LOW - 4 STATE, LOW - 5 MISSING, LOW - 6 SIZE.");
        SumDoor d = Doors.eight();
        d.hold(0, 0);
        int[] told = {d.count(8), d.sum(0, 10), d.as(0, 1), d.solution(0, 1), d.school(0, 1), d.load(0), d.sheet(0, 8, -1)};
        for (int f = 0; f < told.length; f++) {
            Edge.due("finding " + f, -1000001 - f, told[f]);
            Edge.due("it is counted, " + f, 1, d.status(f));
        }
    }

    private static void findingsChangeNothing() {
        Edge.says(0, "one that answers a finding changes nothing but status().");
        Edge.refused("feed", Check.FULL, () -> Doors.eightAnd("x=1+2-3*4/5%6+7-8*9/x%x+x-x*x/x%x+x-x*x"), d -> d.feed('x', 4));
        Edge.refused("sum", Check.FULL, () -> Doors.eightAnd("x=1"), d -> d.sum(1, 5));
        Edge.refused("change", Check.BEYOND, Doors::busy, d -> d.change(0, 1, 100));
        Edge.refused("prisoner", Check.BEYOND, Doors::busy, d -> d.prisoner(0, 0, 10));
        Edge.refused("set", Check.BEYOND, Doors::busy, d -> d.set(3));
        Edge.refused("alms", Check.BEYOND, Doors::busy, d -> d.alms(11));
        Edge.refused("school", Check.STATE, Doors::busy, d -> d.school(0, 1));
        Edge.refused("minutes", Check.BEYOND, Doors::busy, d -> d.minutes(101));
        Edge.refused("hold", Check.BEYOND, Doors::busy, d -> d.hold(1, 3));
        Edge.refused("sheet", Check.SIZE, Doors::busy, d -> d.sheet(0, 8, -1));
        Edge.refused("write", Check.BEYOND, Doors::busy, d -> d.write(0, 6, 1));
        Edge.refused("copy", Check.KIND, Doors::busy, d -> d.copy(0, 0, 2, 0, 1));
        Edge.refused("load", Check.MISSING, Doors::busy, d -> d.load(3));
        Edge.refused("undo", Check.NONE, () -> Doors.at(7), d -> d.undo());
    }

    private static void sets() {
        Edge.says(0, "Sets are told as bits");
        for (int p = 0; p < 10; p++) {
            SumDoor d = Doors.poor("x=0");
            d.prisoner(p, 0, 9);
            d.prisoner(p, 1, 50);
            Edge.due("it is seen ahead, of " + p, 1 << p, d.ahead(1, 0));
            Edge.due("so are ANSWERS, of " + p, 1 << p, d.ahead(1, 1));
            d.minutes(1);
            Edge.due("of " + p, 1 << p, d.out());
        }
        for (int s = 0; s < 8; s++) {
            SumDoor d = Doors.eight();
            for (int other = 0; other < 8; other++) {
                d.change(other, 0, other == s ? 4 : 0);
            }
            Edge.due("SUMS, of " + s, 1 << s, d.could(0, 2));
        }
    }

    private static void worth(String text, int x, int left, int right) {
        SumDoor d = Doors.one(text, 0, 10);
        Edge.due("left of " + text + " by " + x, left, d.side(0, 0, x));
        Edge.due("right of " + text + " by " + x, right, d.side(0, 1, x));
    }

    private static void texts() {
        Edge.says(0, "A TEXT is read from THE TAPE (bytes, at most 40): two SIDES, parted by the byte = ;");
        worth("12=34", 0, 12, 34);
        worth("x=x+1", 8, 8, 9);
        Edge.says(0, "each SIDE: P { + P, - P };");
        worth("9-4-3=9-4+3", 0, 2, 8);
        worth("1+2+3-4=1-2-3+4", 0, 2, 0);
        Edge.says(0, "P: Q { * Q, / Q, % Q };");
        worth("2+3*4=2*3+4", 0, 14, 10);
        worth("90/7*2=2*90/7", 0, 24, 25);
        worth("90%7*2=2*90%7", 0, 12, 5);
        worth("90/7%5=90%50/7", 0, 2, 5);
        worth("1+90/3/3-2=9%5%3", 0, 9, 1);
        Edge.says(0, "Q: 1 to 3 digits, x, ( SIDE ).");
        worth("7=77", 0, 7, 77);
        worth("777=007", 0, 777, 7);
        worth("x*x=(x)", -3, 9, -3);
        worth("2*(3+x)=(9-(4-x))*2", 1, 8, 12);
        worth("((x))=(((x+(1))))", 5, 5, 6);
    }

    private static void faults() {
        Edge.says(0, "FAULT: the place (from 0) of the first byte with which no TEXT (of any length) goes on; "
                + "how many there are, if it ends too early.");
        String[] texts = {"y=1", "x1=1", "x=)", "x=1y", "x+1=2+y", "", "x", "x=1+", "x=(1", "x*(x+1"};
        int[] places = {0, 1, 2, 3, 6, 0, 1, 4, 4, 6};
        for (int i = 0; i < texts.length; i++) {
            Edge.due(texts[i], -10 - places[i], Check.sumFrom(new SumDoor(), texts[i], 0, 10));
        }
    }

    private static void sumsAndKinds() {
        Edge.says(0, "SUMS 0, 1, .. (at most 8): a TEXT, a number m (1 to 99; 10 at first), of KINDS:");
        SumDoor d = new SumDoor();
        for (int s = 0; s < 8; s++) {
            Edge.due("its number", s, Check.sumFrom(d, "x=2" + s, s % 7, 10 + s));
        }
        Edge.due("no ninth", Check.FULL, Check.sumFrom(d, "x=28", 0, 10));
        for (int s = 0; s < 8; s++) {
            Edge.due("TEXT of " + s, 20 + s, d.side(s, 1, 0));
            Edge.due("m of " + s, 10 + s, d.sumOf(s, 1));
            Edge.due("kind of " + s, s % 7, d.sumOf(s, 0));
        }
        Edge.says(0, "0 SUM; 1 LESS, 2 REST, 4 OTHER, 6 NEAR under SUM; 3 ODD under REST; 5 MORE under LESS.");
        String[] under = {"0", "10", "20", "320", "40", "510", "60"};
        d.hold(3, 0);
        for (int kind = 0; kind <= 6; kind++) {
            d.change(0, 0, kind);
            for (int as = 0; as <= 6; as++) {
                boolean is = under[kind].indexOf('0' + as) >= 0;
                Edge.due(KINDS[kind] + " as " + KINDS[as], is ? 0 : Check.KIND, d.as(3, as));
            }
        }
    }

    private static boolean isSolved(int kind, int x, int l, int r, int m) {
        switch (kind) {
            case 1:
                return l < r;
            case 2:
                return (l - r) % m == 0;
            case 3:
                return (l - r) % m == 0 && x % 2 != 0;
            case 4:
                return l != r;
            case 5:
                return l > r;
            case 6:
                return l - r >= -m && l - r <= m;
            default:
                return l == r;
        }
    }

    private static void whoSolves() {
        Edge.says(0, "A NUMBER x (0 to 99) SOLVES one, l and r being its SIDES with that x:");
        String[] texts = {"x=40", "x*x%10=x", "x/7=x%7", "(x-50)*(x-50)=900", "x+x=x*3-60"};
        for (String text : texts) {
            for (int kind = 0; kind <= 6; kind++) {
                SumDoor d = Doors.one(text, kind, 7);
                for (int x = 0; x <= 99; x++) {
                    boolean is = isSolved(kind, x, d.side(0, 0, x), d.side(0, 1, x), 7);
                    Edge.due(KINDS[kind] + " " + text + " by " + x, is ? 1 : 0, d.solves(0, x));
                }
            }
        }
    }

    private static void hard() {
        Edge.says(0, "HARD is a SUM: how many of + - * / % x and digits (each one) its TEXT has, together; "
                + "a LESS one and all under it: half of that (cut) more; an ODD one: 5 more.");
        String[] texts = {"1=1", "x=12", "((x))+1=(007)", "1+2-3*4/5%6=x", "x*x*x=x"};
        int[][] due = {{2, 3, 2, 7, 2, 3, 2}, {3, 4, 3, 8, 3, 4, 3}, {6, 9, 6, 11, 6, 9, 6}, {12, 18, 12, 17, 12, 18, 12},
            {6, 9, 6, 11, 6, 9, 6}};
        for (int t = 0; t < texts.length; t++) {
            for (int kind = 0; kind <= 6; kind++) {
                Edge.due(KINDS[kind] + " " + texts[t], due[t][kind], Doors.one(texts[t], kind, 10).sumOf(0, 2));
            }
        }
    }

    private static void partsOfPrisoners() {
        Edge.says(0, "PRISONERS 0 to 9, each with SKILL (what 0; 1 to 9, 3 at first), CHALK (1; 0 to 999, 50 at first), "
                + "PRICE (2; 0 to 99, 10 at first: at which an answer is sold), CELL (3; 0 to 19; at first its number), "
                + "MAY (4; 1 or 0, 1 at first: whether he should go).");
        int[] least = {1, 0, 0, 0, 0};
        int[] most = {9, 999, 99, 19, 1};
        SumDoor d = new SumDoor();
        for (int p = 0; p <= 9; p++) {
            int[] first = {3, 50, 10, p, 1};
            for (int what = 0; what <= 4; what++) {
                Edge.due("at first " + what + " of " + p, first[what], d.of(p, what));
                Edge.due("least " + what + " of " + p, first[what], d.prisoner(p, what, least[what]));
                Edge.due("most " + what + " of " + p, least[what], d.prisoner(p, what, most[what]));
                Edge.due("told " + what + " of " + p, most[what], d.of(p, what));
            }
        }
        Edge.due("no PRISONER 10", Check.BEYOND, d.of(10, 0));
        SumDoor sold = Doors.worker("x=0", 9, 1);
        sold.prisoner(0, 2, 33);
        sold.prisoner(1, 0, 1);
        sold.prisoner(1, 1, 34);
        sold.minutes(1);
        Edge.due("an answer is sold at PRICE", 33, sold.of(0, 1));
        SumDoor may = Doors.worker("x=0", 9, 1);
        Edge.due("nine should go, too", 9, may.wrongs(0, 1));
        Check.setAll(may, 4, 0);
        Edge.due("he should not go", 1, may.wrongs(0, 1));
    }

    private static void dayAtFirst() {
        Edge.says(0, "THE SUM is one of the SUMS, or none (-1, at first).");
        SumDoor d = new SumDoor();
        Edge.due("at first", -1, d.count(1));
        Check.sumFrom(d, "x=1", 0, 10);
        Edge.due("a new SUM is not THE SUM", -1, d.count(1));
        d.set(0);
        Edge.due("one of them", 0, d.count(1));
        Edge.says(0, "MINUTE is 0 at first (480 at most).");
        Edge.due("at first", 0, new SumDoor().count(2));
        Edge.due("at most", 480, Doors.at(480).count(2));
        Edge.due("no more", Check.STATE, Doors.at(480).minutes(1));
        Edge.says(0, "Each PRISONER works on a NUMBER (0 at first), has an ANSWER (a NUMBER, or none, -1, at first), "
                + "WORK (0 at first), is OUT or not (at first).");
        for (int p = 0; p <= 9; p++) {
            int[] first = {0, -1, 0, 0};
            for (int k = 0; k < first.length; k++) {
                Edge.due("at first " + (5 + k) + " of " + p, first[k], new SumDoor().of(p, 5 + k));
            }
        }
    }

    private static void state(String what, SumDoor d, int p, int... want) {
        int[] parts = {1, 5, 6, 7, 8};
        for (int k = 0; k < want.length; k++) {
            Edge.due(what + ", part " + parts[k] + " of " + p, want[k], d.of(p, parts[k]));
        }
    }

    private static void work() {
        Edge.says(0, "A MINUTE (nothing comes of one without THE SUM but that it is one more):");
        SumDoor none = Doors.at(9);
        Edge.due("MINUTE", 9, none.count(2));
        state("without THE SUM", none, 0, 50, 0, -1, 0, 0);
        Edge.says(0, "(a) by numbers each PRISONER who isn't OUT and has no ANSWER: WORK is more by SKILL, "
                + "and CHALK one less");
        SumDoor d = Check.doorWith("x*x*x*x*x=999", 0, 10);
        for (int p = 0; p <= 9; p++) {
            d.prisoner(p, 0, 1 + p % 9);
            d.prisoner(p, 1, 20 + p);
        }
        d.minutes(1);
        for (int p = 0; p <= 9; p++) {
            state("a MINUTE", d, p, 19 + p, 0, -1, 1 + p % 9, 0);
        }
        d.minutes(1);
        state("another", d, 8, 26, 1, -1, 6, 0);
        state("another", d, 0, 18, 0, -1, 2, 0);
        Edge.says(0, "as long as WORK is HARD of THE SUM or more: WORK is less by that, and, if the NUMBER SOLVES it, "
                + "it is his ANSWER (and no more of this); else the NUMBER is one more (0 behind 99).");
        SumDoor e = Doors.worker("x=2", 9, 50);
        e.minutes(1);
        state("three NUMBERS of HARD 2", e, 0, 49, 2, 2, 3, 1);
        SumDoor f = Doors.worker("x=6", 9, 50);
        f.minutes(1);
        state("four NUMBERS", f, 0, 49, 4, -1, 1, 0);
        f.minutes(1);
        state("7 NUMBERS, 10 of WORK", f, 0, 48, 6, 6, 4, 1);
    }

    private static void answersAreSold() {
        Edge.says(0, "(b) By numbers each who isn't OUT and has no ANSWER: of those who have one "
                + "(also just now, by (a) or (b)) and aren't OUT he asks the one with the least PRICE "
                + "(of several the least number); if his CHALK is that or more, so much goes over "
                + "(who sells has 999 at most, what is more is lost), and the ANSWER is his, too.");
        SumDoor d = Doors.worker("x=3", 8, 100);
        d.prisoner(0, 2, 7);
        d.prisoner(4, 1, 30);
        d.prisoner(4, 0, 1);
        d.minutes(1);
        state("who sold", d, 0, 99 + 7, 3, 3, 0, 1);
        state("who bought", d, 4, 29 - 7, 0, 3, 1, 1);
        state("who had nothing", d, 5, 0, 0, -1, 0, 0);
    }

    private static void lipsAreRead() {
        Edge.says(0, "(c) LIPS: by numbers each who isn't OUT and has no ANSWER, if one whose CELL is one less or "
                + "one more had an ANSWER, and wasn't OUT, as this minute began: he has it "
                + "(that of the lesser CELL, of several there of the least number).");
        SumDoor d = Doors.worker("x=3", 8, 100);
        d.rich(50);
        d.prisoner(0, 3, 8);
        d.prisoner(3, 3, 7);
        d.prisoner(6, 3, 9);
        d.prisoner(7, 3, 10);
        d.minutes(1);
        state("he has one, and stays", d, 0, 99, 3, 3, 0, 0);
        state("not in the same MINUTE", d, 3, 0, 0, -1, 0, 0);
        Edge.due("two read it, and go", 2, d.minutes(1));
        state("from the CELL above", d, 3, 0, 0, 3, 0, 1);
        state("from the CELL below", d, 6, 0, 0, 3, 0, 1);
        Edge.due("who is OUT is read no more", 0, d.minutes(10));
        state("two CELLS away", d, 7, 0, 0, -1, 0, 0);
    }

    private static void theDoor() {
        Edge.says(0, "(d) THE DOOR: by numbers each who has an ANSWER and isn't OUT, and whose CHALK isn't above RICH "
                + "(0 to 999; 999 at first): he is OUT.");
        Edge.due("at first", 999, new SumDoor().count(3));
        for (int rich = 48; rich <= 50; rich++) {
            SumDoor d = Doors.worker("x=3", 8, 50);
            d.rich(rich);
            Edge.due("CHALK 49, RICH " + rich, rich >= 49 ? 1 : 0, d.minutes(1));
            state("CHALK 49, RICH " + rich, d, 0, 49, 3, 3, 0, rich >= 49 ? 1 : 0);
        }
        SumDoor late = Doors.worker("x=3", 8, 50);
        late.rich(0);
        late.minutes(5);
        late.prisoner(0, 1, 0);
        Edge.due("as soon as he isn't above it", 1, late.minutes(1));
        Edge.says(0, "Then MINUTE is one more.");
        Edge.due("six", 6, late.count(2));
        Edge.says(0, "A NEW DAY: MINUTE, NUMBERS, WORK are 0, there are no ANSWERS, nobody is OUT.");
        late.day();
        Edge.due("MINUTE", 0, late.count(2));
        state("him", late, 0, 0, 0, -1, 0, 0);
    }

    private static void ahead() {
        Edge.says(0, "AHEAD: n MINUTES go on with all as it is; nothing changes.");
        int[] many = {0, 1, 2, 5, 17, 60, 100};
        for (int n : many) {
            SumDoor gone = Doors.busy();
            if (n > 0) {
                gone.minutes(n);
            }
            int answers = 0;
            for (int p = 0; p <= 9; p++) {
                answers |= gone.of(p, 6) >= 0 ? 1 << p : 0;
            }
            Edge.told(n + " AHEAD, who is OUT", gone.out(), Doors::busy, d -> d.ahead(n, 0));
            Edge.told(n + " AHEAD, who has an ANSWER", answers, Doors::busy, d -> d.ahead(n, 1));
            Edge.told(n + " AHEAD, CHALK", gone.count(4), Doors::busy, d -> d.ahead(n, 2));
        }
    }

    private static void draws() {
        Edge.says(0, "DRAWS: z is told (1 at first); each makes it z * 1103515245 + 12345 (an int), and gives z >>> 8.");
        Edge.due("at first", 1, new SumDoor().count(6));
        int[] seeds = {1, 0, -1, 77, Integer.MIN_VALUE, Integer.MAX_VALUE, 123456789};
        for (int seed : seeds) {
            SumDoor d = new SumDoor();
            d.seed(seed);
            long z = seed;
            for (int i = 0; i < 10; i++) {
                z = (z * 1103515245L + 12345L) & 0xffffffffL;
                int who = (int) ((z >> 8) % 10);
                int had = d.of(who, 1);
                d.alms(1);
                Edge.due("z from " + seed, (int) z, d.count(6));
                Edge.due("who is drawn from " + seed, had + 1, d.of(who, 1));
            }
        }
    }

    private static void spotsAndSheets() {
        Edge.says(0, "SPOTS 0 to 9 hold a SUM or nothing (at first).");
        SumDoor d = Doors.eight();
        for (int spot = 0; spot <= 9; spot++) {
            Edge.due("at first " + spot, Check.MISSING, d.as(spot, 0));
            d.hold(spot, (spot + 3) % 8);
        }
        for (int spot = 0; spot <= 9; spot++) {
            Edge.due("it holds, " + spot, (spot + 3) % 8, d.as(spot, 0));
        }
        Edge.says(0, "SHEETS 0 to 3: rows of at most 40 numbers of 8, 16 or 32 bits "
                + "(told with their sign: of 8 bits 255 is -1), or MISSING (at first).");
        for (int s = 0; s <= 3; s++) {
            Edge.due("at first " + s, Check.MISSING, d.load(s));
            for (int bits = 8; bits <= 32; bits *= 2) {
                Edge.due("forty of " + bits + " bits, " + s, 40, d.sheet(s, bits, 40));
                d.write(s, 0, 1 + s);
                Edge.due("one came, " + s, 1, d.load(s));
                Edge.due("it is there, " + s, 1 + s, d.of(0, 0));
            }
            d.write(s, 0, 255);
            Edge.due("255 of 32 bits, " + s, 0, d.load(s));
            d.sheet(s, 8, 1);
            d.write(s, 0, 255);
            Edge.due("-1, " + s, 0, d.load(s));
        }
        Edge.due("no sheet 4", Check.BEYOND, d.load(4));
    }
}

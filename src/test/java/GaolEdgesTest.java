/** The boundaries of promises 12 to 22 and of the terms they use: PRISONERS, MINUTES, THE DOOR. */
public final class GaolEdgesTest {
    private static final int MIN = Integer.MIN_VALUE;
    private static final int MAX = Integer.MAX_VALUE;
    private static final int[] NO_PRISONERS = {-1, 10, MIN, MAX};
    private static final int[] NO_SUMS = {-2, 3, 8, MIN, MAX};

    public static void main(String[] args) {
        noSum();
        working();
        workingWithoutChalk();
        numbersGoRound();
        buying();
        sellersPurse();
        whomToAsk();
        cells();
        lipsOfThisMinute();
        whoseLips();
        door();
        newDay();
        draws();
        prisoner();
        of();
        set();
        rich();
        alms();
        school();
        minutes();
        minutesLate();
        outAndDay();
        ahead();
        when();
        whenLate();
        Edge.finish(12, 22);
    }

    // ---- the terms

    /** NUMBER, ANSWER, WORK, CHALK of a PRISONER, and whether he is OUT. */
    private static void man(String what, SumDoor d, int p, int... want) {
        int[] parts = {5, 6, 7, 1, 8};
        for (int i = 0; i < want.length; i++) {
            Edge.due(what + ", part " + parts[i] + " of " + p, want[i], d.of(p, parts[i]));
        }
    }

    private static void noSum() {
        Edge.says(0, "nothing comes of one without THE SUM but that it is one more");
        SumDoor d = Doors.at(0);
        Edge.due("nobody goes", 0, d.minutes(1));
        Edge.due("MINUTE", 1, d.count(2));
        man("nobody works", d, 0, 0, -1, 0, 50, 0);
        Edge.due("100 more", 0, d.minutes(100));
        Edge.due("MINUTE then", 101, d.count(2));
        man("nobody works", d, 9, 0, -1, 0, 50, 0);
        Edge.due("nobody AHEAD", 0, d.ahead(200, 1));
    }

    private static void working() {
        Edge.says(0, "as long as WORK is HARD of THE SUM or more");
        SumDoor just = Doors.worker("x=12", 3, 50);
        just.minutes(1);
        man("just HARD", just, 0, 1, -1, 0, 49, 0);
        SumDoor slow = Doors.worker("x=9", 1, 50);
        slow.minutes(1);
        man("one below HARD", slow, 0, 0, -1, 1, 49, 0);
        slow.minutes(1);
        man("HARD by the second", slow, 0, 1, -1, 0, 48, 0);
        SumDoor quick = Doors.worker("x=9", 9, 50);
        quick.minutes(1);
        man("four in one", quick, 0, 4, -1, 1, 49, 0);
        Edge.says(0, "it is his ANSWER (and no more of this)");
        SumDoor solver = Doors.worker("x=1", 9, 50);
        Edge.due("he goes", 1, solver.minutes(1));
        man("WORK is left", solver, 0, 1, 1, 5, 49, 1);
        SumDoor first = Doors.worker("x=0", 9, 50);
        first.minutes(1);
        man("the first NUMBER, 0", first, 0, 0, 0, 7, 49, 1);
        Edge.says(0, "each PRISONER who isn't OUT and has no ANSWER");
        solver.minutes(5);
        man("who is OUT works no more", solver, 0, 1, 1, 5, 49, 1);
        SumDoor kept = Doors.worker("x=1", 9, 50);
        kept.rich(0);
        kept.minutes(5);
        man("who has an ANSWER works no more", kept, 0, 1, 1, 5, 49, 0);
    }

    private static void workingWithoutChalk() {
        Edge.says(0, "(who has no CHALK does nothing of (a))");
        SumDoor last = Doors.worker("x=0", 2, 1);
        Edge.due("the last CHALK does", 1, last.minutes(1));
        man("the last CHALK", last, 0, 0, 0, 0, 0, 1);
        SumDoor spent = Doors.worker("x=9", 1, 1);
        spent.minutes(2);
        man("none for a second", spent, 0, 0, -1, 1, 0, 0);
        SumDoor idle = Doors.worker("x=0", 9, 0);
        Edge.due("none at all", 0, idle.minutes(100));
        man("none at all", idle, 0, 0, -1, 0, 0, 0);
        SumDoor ready = Doors.worker("x+x+x+x=999", 7, 2);
        ready.change(0, 0, 3);
        ready.minutes(2);
        man("14 of 15", ready, 0, 0, -1, 14, 0, 0);
        ready.change(0, 0, 0);
        ready.minutes(1);
        man("14 of 10, but no CHALK", ready, 0, 0, -1, 14, 0, 0);
        ready.prisoner(0, 1, 1);
        ready.minutes(1);
        man("21 of 10", ready, 0, 2, -1, 1, 0, 0);
    }

    private static void numbersGoRound() {
        Edge.says(0, "else the NUMBER is one more (0 behind 99)");
        SumDoor round = Doors.worker("x=100", 4, 999);
        round.minutes(99);
        man("99", round, 0, 99, -1, 0, 900, 0);
        round.minutes(1);
        man("0 behind it", round, 0, 0, -1, 0, 899, 0);
        SumDoor last = Doors.worker("x=99", 3, 999);
        Edge.due("not yet", 0, last.minutes(99));
        Edge.due("99 is tried", 1, last.minutes(1));
        man("99 is his ANSWER", last, 0, 99, 99, 0, 899, 1);
    }

    /** PRISONER 0 solves in a MINUTE and sells for price; 1 does not, and has CHALK. */
    private static SumDoor seller(int price, int chalk) {
        SumDoor d = Doors.worker("x=0", 2, 50);
        d.prisoner(0, 2, price);
        d.prisoner(1, 0, 1);
        d.prisoner(1, 1, chalk);
        return d;
    }

    private static void buying() {
        Edge.says(0, "if his CHALK is that or more, so much goes over");
        SumDoor just = seller(10, 11);
        Edge.due("just the PRICE, one less by (a)", 2, just.minutes(1));
        man("all he had", just, 1, 0, 0, 1, 0, 1);
        man("who sold", just, 0, 0, 0, 0, 59, 1);
        SumDoor less = seller(10, 10);
        Edge.due("one too few", 1, less.minutes(1));
        man("he keeps it", less, 1, 0, -1, 1, 9, 0);
        SumDoor most = seller(99, 100);
        Edge.due("the highest PRICE", 2, most.minutes(1));
        man("99 went over", most, 0, 0, 0, 0, 148, 1);
        Edge.due("one too few for it", 1, seller(99, 99).minutes(1));
        SumDoor free = seller(0, 0);
        Edge.due("PRICE 0, CHALK 0: all", 10, free.minutes(1));
        Edge.due("no CHALK went over", 49, free.count(4));
        SumDoor one = seller(1, 0);
        Edge.due("PRICE 1, CHALK 0", 1, one.minutes(1));
        Edge.says(0, "of those who have one (also just now, by (a) or (b)) and aren't OUT");
        SumDoor late = seller(10, 0);
        late.minutes(1);
        late.prisoner(1, 1, 50);
        Edge.due("who is OUT sells nothing", 0, late.minutes(1));
        man("he goes on with his work", late, 1, 0, -1, 1, 49, 0);
    }

    private static void sellersPurse() {
        Edge.says(0, "(who sells has 999 at most, what is more is lost)");
        SumDoor d = seller(1, 2);
        d.prisoner(0, 1, 999);
        d.prisoner(2, 0, 1);
        d.prisoner(2, 1, 2);
        Edge.due("two buy", 3, d.minutes(1));
        Edge.due("998 and 1, then no more", 999, d.of(0, 1));
        Edge.due("1 paid", 0, d.of(1, 1));
        Edge.due("2 paid, too", 0, d.of(2, 1));
        SumDoor much = seller(99, 200);
        much.prisoner(0, 1, 950);
        much.minutes(1);
        Edge.due("949 and 99", 999, much.of(0, 1));
        Edge.due("all 99 are gone", 100, much.of(1, 1));
    }

    private static void whomToAsk() {
        Edge.says(0, "he asks the one with the least PRICE (of several the least number)");
        SumDoor d = Doors.poor("x=0");
        int[][] men = {{0, 2, 50, 10}, {1, 2, 50, 9}, {2, 2, 50, 9}, {3, 1, 50, 99}};
        for (int[] m : men) {
            d.prisoner(m[0], 0, m[1]);
            d.prisoner(m[0], 1, m[2]);
            d.prisoner(m[0], 2, m[3]);
        }
        Edge.due("3 buys", 4, d.minutes(1));
        int[] chalk = {49, 58, 49, 40};
        for (int p = 0; p < chalk.length; p++) {
            Edge.due("CHALK of " + p, chalk[p], d.of(p, 1));
        }
        Edge.says(0, "(b) By numbers each who isn't OUT and has no ANSWER");
        SumDoor order = Doors.poor("x=0");
        int[][] few = {{0, 1, 6, 99}, {1, 1, 60, 1}, {2, 1, 6, 99}, {5, 2, 50, 50}};
        for (int[] m : few) {
            order.prisoner(m[0], 0, m[1]);
            order.prisoner(m[0], 1, m[2]);
            order.prisoner(m[0], 2, m[3]);
        }
        Edge.due("5 solves, 1 buys of 5, 2 of 1", 3, order.minutes(1));
        Edge.due("0 asked ahead of 1", 2 + 4 + 32, order.out());
        int[] then = {5, 10, 4, 0, 0, 99};
        for (int p = 0; p < then.length; p++) {
            Edge.due("CHALK of " + p, then[p], order.of(p, 1));
        }
        firstAndLastBuy();
    }

    private static void firstAndLastBuy() {
        Edge.says(0, "of those who have one (also just now, by (a) or (b)) and aren't OUT");
        SumDoor d = Doors.poor("x=0");
        int[][] men = {{0, 1, 50, 0}, {5, 2, 50, 10}, {9, 1, 50, 99}};
        for (int[] m : men) {
            d.prisoner(m[0], 0, m[1]);
            d.prisoner(m[0], 1, m[2]);
            d.prisoner(m[0], 2, m[3]);
        }
        Edge.due("0 buys of 5, then sells to all the others", 10, d.minutes(1));
        Edge.due("0 paid 10", 39, d.of(0, 1));
        Edge.due("5 got 10", 59, d.of(5, 1));
        Edge.due("9 asked 0, for nothing", 49, d.of(9, 1));
        SumDoor late = Doors.poor("x=0");
        late.prisoner(0, 2, 0);
        late.prisoner(9, 0, 2);
        late.prisoner(9, 1, 50);
        late.prisoner(9, 2, 10);
        late.prisoner(1, 0, 1);
        late.prisoner(1, 1, 50);
        Edge.due("0 would sell for nothing, but has none", 2, late.minutes(1));
        Edge.due("1 paid 10", 39, late.of(1, 1));
        Edge.due("9 got 10", 59, late.of(9, 1));
    }

    /** PRISONER 0 has ANSWER 0 and CHALK 49, too much to go; the others have none and stand in CELL 15. */
    private static SumDoor speaker(int cell) {
        SumDoor d = Doors.worker("x=0", 2, 50);
        d.rich(0);
        d.minutes(1);
        d.prisoner(0, 3, cell);
        return d;
    }

    private static void cells() {
        Edge.says(0, "if one whose CELL is one less or one more had an ANSWER");
        int[][] pairs = {{0, 1, 1}, {1, 0, 1}, {18, 19, 1}, {19, 18, 1}, {0, 19, 0}, {19, 0, 0}, {5, 5, 0}, {5, 7, 0},
            {7, 5, 0}, {0, 0, 0}, {19, 19, 0}};
        for (int[] c : pairs) {
            SumDoor d = speaker(c[0]);
            Check.setAll(d, 3, 10);
            d.prisoner(0, 3, c[0]);
            d.prisoner(1, 3, c[1]);
            Edge.due("CELL " + c[1] + " reads " + c[0], c[2], d.minutes(1));
            Edge.due("1 has it", c[2] - 1, d.of(1, 6));
        }
        SumDoor middle = Doors.poor("x=0");
        middle.rich(0);
        middle.prisoner(5, 0, 2);
        middle.prisoner(5, 1, 50);
        middle.prisoner(5, 3, 10);
        middle.minutes(1);
        middle.prisoner(0, 3, 9);
        middle.prisoner(9, 3, 11);
        Edge.due("the first and the last read 5", 2, middle.minutes(1));
        Edge.due("0 and 9 go", 1 + 512, middle.out());
    }

    private static void lipsOfThisMinute() {
        Edge.says(0, "and wasn't OUT, as this minute began");
        SumDoor fresh = Doors.worker("x=0", 2, 50);
        fresh.rich(0);
        fresh.prisoner(1, 3, 1);
        Edge.due("not who solves it in this MINUTE", 0, fresh.minutes(1));
        Edge.due("but in the next", 1, fresh.minutes(1));
        SumDoor bought = speaker(0);
        bought.prisoner(0, 2, 5);
        bought.prisoner(1, 0, 1);
        bought.prisoner(1, 1, 50);
        bought.prisoner(1, 3, 10);
        bought.prisoner(2, 3, 11);
        Edge.due("not who buys it in this MINUTE", 0, bought.minutes(1));
        Edge.due("1 has bought it", 0, bought.of(1, 6));
        Edge.due("2 reads it in the next", 1, bought.minutes(1));
        SumDoor chain = speaker(0);
        chain.prisoner(1, 0, 1);
        chain.prisoner(1, 1, 5);
        chain.prisoner(1, 3, 1);
        chain.prisoner(2, 3, 2);
        Edge.due("not who reads it in this MINUTE", 0, chain.minutes(1));
        man("1 has read it", chain, 1, 0, 0, 1, 4, 0);
        Edge.due("2 has not", -1, chain.of(2, 6));
        Edge.due("2 reads it in the next", 1, chain.minutes(1));
        SumDoor gone = Doors.worker("x=0", 2, 50);
        gone.prisoner(1, 3, 1);
        Edge.due("0 goes", 1, gone.minutes(1));
        Edge.due("who is OUT isn't read", 0, gone.minutes(100));
        SumDoor going = speaker(0);
        going.prisoner(1, 3, 1);
        going.rich(49);
        Edge.due("who goes in this MINUTE is read yet", 2, going.minutes(1));
    }

    /** PRISONER 0 has ANSWER 3, PRISONER 1 has 0; both are too rich to go, the others have no CHALK. */
    private static SumDoor twoSpeakers(int cellOf0, int cellOf1) {
        SumDoor d = Doors.worker("x=3", 8, 50);
        d.rich(0);
        d.minutes(1);
        d.change(0, 0, 4);
        d.prisoner(1, 0, 2);
        d.prisoner(1, 1, 50);
        d.minutes(1);
        Edge.due("ANSWER of 0", 3, d.of(0, 6));
        Edge.due("ANSWER of 1", 0, d.of(1, 6));
        d.prisoner(0, 3, cellOf0);
        d.prisoner(1, 3, cellOf1);
        d.prisoner(2, 3, 5);
        d.prisoner(3, 3, 4);
        return d;
    }

    private static void whoseLips() {
        Edge.says(0, "(that of the lesser CELL, of several there of the least number)");
        int[][] due = {{6, 4, 0}, {4, 6, 3}, {4, 4, 3}, {6, 6, 3}, {10, 6, 0}, {6, 10, 3}, {4, 10, 3}, {10, 4, 0}};
        for (int[] c : due) {
            SumDoor d = twoSpeakers(c[0], c[1]);
            d.minutes(1);
            Edge.due("0 in CELL " + c[0] + ", 1 in " + c[1] + ", 3 in 4 has nothing to say", c[2], d.of(2, 6));
        }
    }

    private static void door() {
        Edge.says(0, "whose CHALK isn't above RICH");
        int[][] due = {{50, 49, 1}, {50, 48, 0}, {1, 0, 1}, {2, 0, 0}, {999, 998, 1}, {999, 997, 0}, {999, 999, 1}};
        for (int[] c : due) {
            SumDoor d = Doors.worker("x=0", 2, c[0]);
            d.rich(c[1]);
            Edge.due("CHALK " + c[0] + " less one, RICH " + c[1], c[2], d.minutes(1));
        }
        SumDoor kept = Doors.worker("x=0", 2, 50);
        kept.rich(48);
        kept.minutes(1);
        kept.rich(49);
        Edge.due("he goes as soon as he isn't", 1, kept.minutes(1));
        kept.rich(0);
        Edge.due("who is OUT stays so", 0, kept.minutes(1));
        Edge.due("who is OUT", 1, kept.out());
    }

    private static void newDay() {
        Edge.says(0, "MINUTE, NUMBERS, WORK are 0, there are no ANSWERS, nobody is OUT.");
        SumDoor d = Doors.busy();
        int chalk = d.count(4);
        d.day();
        for (int p = 0; p <= 9; p++) {
            man("NEW DAY", d, p, 0, -1, 0, d.of(p, 1), 0);
        }
        Edge.due("MINUTE", 0, d.count(2));
        Edge.due("nobody is OUT", 0, d.out());
        Edge.due("CHALK stays", chalk, d.count(4));
        Edge.due("SKILL stays", 9, d.of(2, 0));
        Edge.due("THE SUM stays", 0, d.count(1));
        Edge.due("RICH stays", 44, d.count(3));
    }

    private static void draws() {
        Edge.says(0, "each makes it z * 1103515245 + 12345 (an int), and gives z >>> 8");
        int[][] due = {{0, 12345, 8}, {1, 1103527590, 4}, {-1, -1103502900, 7}, {MIN, MIN + 12345, 6},
            {MAX, 1043980748, 9}};
        for (int[] c : due) {
            SumDoor d = new SumDoor();
            d.seed(c[0]);
            d.alms(1);
            Edge.due("z behind " + c[0], c[1], d.count(6));
            Edge.due("who got it by " + c[0], 51, d.of(c[2], 1));
        }
    }

    // ---- the promises

    private static void prisoner() {
        Edge.says(12, "Part what (0 to 4) of a PRISONER becomes v: what it was.");
        int[] least = {1, 0, 0, 0, 0};
        int[] most = {9, 999, 99, 19, 1};
        for (int p = 0; p <= 9; p += 9) {
            SumDoor d = new SumDoor();
            int[] first = {3, 50, 10, p, 1};
            for (int what = 0; what <= 4; what++) {
                Edge.due("to the most " + what, first[what], d.prisoner(p, what, most[what]));
                Edge.due("to the least " + what, most[what], d.prisoner(p, what, least[what]));
                Edge.due("it is " + what, least[what], d.of(p, what));
            }
        }
        Edge.says(12, "BEYOND.");
        for (int what = 0; what <= 4; what++) {
            int part = what;
            for (int v : new int[] {least[what] - 1, most[what] + 1, MIN, MAX}) {
                Edge.refused("part " + what + ", v " + v, Check.BEYOND, Doors::busy, d -> d.prisoner(0, part, v));
            }
        }
        for (int what : new int[] {-1, 5, 6, 8, MIN, MAX}) {
            Edge.refused("what " + what, Check.BEYOND, Doors::busy, d -> d.prisoner(0, what, 1));
        }
        for (int p : NO_PRISONERS) {
            Edge.refused("PRISONER " + p, Check.BEYOND, Doors::busy, d -> d.prisoner(p, 0, 1));
        }
    }

    private static void of() {
        Edge.says(13, "5 the NUMBER, 6 ANSWER (-1: none), 7 WORK, 8 1 if OUT, else 0");
        int[] of2 = {9, 38, 99, 2, 1, 5, 5, 6, 1};
        int[] of9 = {1, 46, 99, 9, 1, 2, -1, 0, 0};
        for (int what = 0; what <= 8; what++) {
            int part = what;
            Edge.told("who is OUT, " + what, of2[what], Doors::busy, d -> d.of(2, part));
            Edge.told("who has no ANSWER, " + what, of9[what], Doors::busy, d -> d.of(9, part));
        }
        Edge.says(13, "BEYOND.");
        for (int what : new int[] {-1, 9, MIN, MAX}) {
            Edge.refused("what " + what, Check.BEYOND, Doors::busy, d -> d.of(0, what));
        }
        for (int p : NO_PRISONERS) {
            Edge.refused("PRISONER " + p, Check.BEYOND, Doors::busy, d -> d.of(p, 0));
        }
    }

    private static void set() {
        Edge.says(14, "THE SUM becomes one (-1: none), and a NEW DAY begins: what it was.");
        SumDoor d = Doors.busy();
        Edge.due("the last SUM", 0, d.set(2));
        Edge.due("a NEW DAY", 0, d.count(2));
        Edge.due("nobody is OUT", 0, d.out());
        Edge.due("none", 2, d.set(-1));
        Edge.due("none is THE SUM", -1, d.count(1));
        Edge.due("none again", -1, d.set(-1));
        d.minutes(5);
        Edge.due("from none", -1, d.set(0));
        Edge.due("a NEW DAY again", 0, d.count(2));
        d.minutes(5);
        Edge.due("the same", 0, d.set(0));
        Edge.due("a NEW DAY by the same, too", 0, d.count(2));
        Edge.says(14, "BEYOND.");
        for (int sum : NO_SUMS) {
            Edge.refused("SUM " + sum, Check.BEYOND, Doors::busy, b -> b.set(sum));
        }
        Edge.refused("there is none", Check.BEYOND, SumDoor::new, b -> b.set(0));
        Edge.due("the eighth", -1, Doors.eight().set(7));
        Edge.refused("a ninth", Check.BEYOND, Doors::eight, b -> b.set(8));
    }

    private static void rich() {
        Edge.says(15, "RICH becomes v: what it was.");
        SumDoor d = new SumDoor();
        Edge.due("0", 999, d.rich(0));
        Edge.due("it is 0", 0, d.count(3));
        Edge.due("999", 0, d.rich(999));
        Edge.due("it is 999", 999, d.count(3));
        Edge.says(15, "BEYOND.");
        for (int v : new int[] {-1, 1000, MIN, MAX}) {
            Edge.refused("v " + v, Check.BEYOND, Doors::busy, b -> b.rich(v));
        }
    }

    private static void alms() {
        Edge.says(16, "n PRISONERS (1 to 10; each the rest of a draw by 10)");
        Edge.due("1", 501, new SumDoor().alms(1));
        Edge.due("10", 510, new SumDoor().alms(10));
        Edge.says(16, "get one more CHALK each time (999 at most): the sum of all CHALK");
        SumDoor d = new SumDoor();
        Check.setAll(d, 1, 998);
        d.seed(0);
        Edge.due("998", 9981, d.alms(1));
        Edge.due("8 has 999", 999, d.of(8, 1));
        d.seed(0);
        Edge.due("999", 9981, d.alms(1));
        Edge.due("8 has 999 yet", 999, d.of(8, 1));
        Edge.due("the draw was made", 12345, d.count(6));
        SumDoor twice = new SumDoor();
        for (int i = 0; i < 3; i++) {
            twice.seed(0);
            twice.alms(1);
        }
        Edge.due("each time", 53, twice.of(8, 1));
        SumDoor poor = new SumDoor();
        Check.setAll(poor, 1, 0);
        Edge.due("from none", 10, poor.alms(10));
        Edge.says(16, "BEYOND.");
        for (int n : new int[] {0, 11, -1, MIN, MAX}) {
            Edge.refused("n " + n, Check.BEYOND, Doors::busy, b -> b.alms(n));
        }
    }

    private static void school() {
        Edge.says(17, "the other one 2 less CHALK (0 at least)");
        int[][] due = {{0, 0}, {1, 0}, {2, 0}, {3, 1}, {999, 997}};
        for (int[] c : due) {
            SumDoor d = new SumDoor();
            d.prisoner(9, 0, 9);
            d.prisoner(9, 1, c[0]);
            Edge.due("who learns is told first", 4, d.school(0, 9));
            Edge.due("CHALK " + c[0], c[1], d.of(9, 1));
            Edge.due("who learns pays nothing", 50, d.of(0, 1));
            Edge.due("who teaches is told first", 9, d.school(9, 0));
        }
        Edge.due("up to SKILL 9", 9, skilled(8, 9).school(0, 1));
        SumDoor first = skilled(1, 2);
        Edge.due("from SKILL 1", 2, first.school(1, 0));
        Edge.due("who learnt", 2, first.of(0, 0));
        Edge.says(17, "BEYOND (also one and the same).");
        for (int p : NO_PRISONERS) {
            Edge.refused("one " + p, Check.BEYOND, Doors::busy, d -> d.school(p, 2));
            Edge.refused("other " + p, Check.BEYOND, Doors::busy, d -> d.school(2, p));
            Edge.refused("both " + p, Check.BEYOND, Doors::busy, d -> d.school(p, p));
        }
        for (int p : new int[] {0, 9}) {
            Edge.refused("one and the same " + p, Check.BEYOND, Doors::busy, d -> d.school(p, p));
        }
        Edge.says(17, "STATE: both have as much.");
        Edge.refused("3 and 3", Check.STATE, Doors::busy, d -> d.school(0, 1));
        Edge.refused("9 and 9", Check.STATE, () -> skilled(9, 9), d -> d.school(0, 1));
        Edge.refused("1 and 1", Check.STATE, () -> skilled(1, 1), d -> d.school(1, 0));
    }

    /** SKILL of PRISONERS 0 and 1. */
    private static SumDoor skilled(int of0, int of1) {
        SumDoor d = new SumDoor();
        d.prisoner(0, 0, of0);
        d.prisoner(1, 0, of1);
        return d;
    }

    private static void minutes() {
        Edge.says(18, "n MINUTES go (1 to 100): how many have become OUT in them.");
        SumDoor d = Doors.busy();
        Edge.due("1", 0, d.minutes(1));
        Edge.due("MINUTE", 5, d.count(2));
        d.rich(999);
        Edge.due("all but 2, who was OUT", 9, d.minutes(100));
        Edge.due("all are", 1023, d.out());
        Edge.due("none in these", 0, d.minutes(100));
        Edge.due("MINUTE then", 205, d.count(2));
        Edge.says(18, "BEYOND.");
        for (int n : new int[] {0, 101, -1, MIN, MAX}) {
            Edge.refused("n " + n, Check.BEYOND, Doors::busy, b -> b.minutes(n));
        }
    }

    private static void minutesLate() {
        Edge.says(18, "STATE: MINUTE would be above 480.");
        int[][] taken = {{380, 100}, {479, 1}, {470, 10}};
        for (int[] c : taken) {
            SumDoor d = Doors.at(c[0]);
            Edge.due(c[1] + " at " + c[0], 0, d.minutes(c[1]));
            Edge.due("MINUTE", 480, d.count(2));
        }
        int[][] late = {{381, 100}, {480, 1}, {480, 100}, {470, 11}};
        for (int[] c : late) {
            Edge.refused(c[1] + " at " + c[0], Check.STATE, () -> Doors.at(c[0]), d -> d.minutes(c[1]));
        }
        Edge.refused("n is asked first", Check.BEYOND, () -> Doors.at(480), d -> d.minutes(0));
        Edge.refused("n is asked first, above", Check.BEYOND, () -> Doors.at(480), d -> d.minutes(101));
        SumDoor next = Doors.at(480);
        next.day();
        Edge.due("a NEW DAY has room", 0, next.minutes(100));
    }

    private static void outAndDay() {
        Edge.says(19, "PRISONERS who are OUT, as a set.");
        Edge.told("nobody", 0, SumDoor::new, SumDoor::out);
        Edge.told("2", 4, Doors::busy, SumDoor::out);
        SumDoor all = Check.doorWith("x=0", 0, 10);
        all.minutes(1);
        Edge.due("all", 1023, all.out());
        SumDoor last = Doors.poor("x=0");
        last.prisoner(9, 1, 50);
        last.minutes(1);
        Edge.due("9", 512, last.out());
        SumDoor first = Doors.worker("x=0", 9, 50);
        first.minutes(1);
        Edge.due("0", 1, first.out());
        Edge.says(20, "A NEW DAY: how many were OUT.");
        Edge.due("all were", 10, all.day());
        Edge.due("nobody was", 0, all.day());
        Edge.due("one was", 1, last.day());
        SumDoor late = Doors.at(480);
        Edge.due("at 480", 0, late.day());
        Edge.due("MINUTE", 0, late.count(2));
    }

    private static void ahead() {
        Edge.says(21, "AHEAD n MINUTES (0 to 200)");
        Edge.told("0, OUT", 4, Doors::busy, d -> d.ahead(0, 0));
        Edge.told("0, ANSWERS", 511, Doors::busy, d -> d.ahead(0, 1));
        Edge.told("1, ANSWERS", 1023, Doors::busy, d -> d.ahead(1, 1));
        Edge.told("0, CHALK", Doors.busy().count(4), Doors::busy, d -> d.ahead(0, 2));
        Edge.told("1, CHALK", Doors.busy().count(4) - 1, Doors::busy, d -> d.ahead(1, 2));
        Edge.told("200, OUT", 4, Doors::busy, d -> d.ahead(200, 0));
        Edge.told("200, CHALK", Doors.busy().count(4) - 1, Doors::busy, d -> d.ahead(200, 2));
        Edge.told("200 without THE SUM", 500, () -> Doors.at(280), d -> d.ahead(200, 2));
        Edge.told("0 at 480", 0, () -> Doors.at(480), d -> d.ahead(0, 0));
        Edge.says(21, "BEYOND.");
        for (int n : new int[] {-1, 201, MIN, MAX}) {
            Edge.refused("n " + n, Check.BEYOND, Doors::busy, d -> d.ahead(n, 0));
        }
        for (int what : new int[] {-1, 3, MIN, MAX}) {
            Edge.refused("what " + what, Check.BEYOND, Doors::busy, d -> d.ahead(1, what));
        }
        Edge.says(21, "STATE: MINUTE would be above 480.");
        int[][] late = {{281, 200}, {480, 1}, {480, 200}, {479, 2}};
        for (int[] c : late) {
            Edge.refused(c[1] + " at " + c[0], Check.STATE, () -> Doors.at(c[0]), d -> d.ahead(c[1], 0));
        }
        Edge.told("1 at 479", 0, () -> Doors.at(479), d -> d.ahead(1, 0));
        Edge.refused("n is asked first", Check.BEYOND, () -> Doors.at(480), d -> d.ahead(201, 0));
        Edge.refused("what is asked first", Check.BEYOND, () -> Doors.at(480), d -> d.ahead(1, 3));
    }

    private static SumDoor gone(SumDoor d, int minutes) {
        for (int left = minutes; left > 0; left -= 100) {
            d.minutes(Math.min(100, left));
        }
        return d;
    }

    private static void when() {
        Edge.says(22, "Behind how many MINUTES (1 to 200) AHEAD a PRISONER is OUT.");
        Edge.told("1", 1, () -> Doors.worker("x=0", 2, 50), d -> d.when(0));
        Edge.told("200", 200, () -> Doors.worker("x=049", 1, 999), d -> d.when(0));
        Edge.told("200, from MINUTE 1 on", 200, () -> gone(Doors.worker("x=66", 1, 999), 1), d -> d.when(0));
        Edge.says(22, "NONE.");
        Edge.refused("201", Check.NONE, () -> Doors.worker("x=66", 1, 999), d -> d.when(0));
        Edge.refused("no CHALK for the 200th", Check.NONE, () -> Doors.worker("x=049", 1, 199), d -> d.when(0));
        Edge.refused("too rich", Check.NONE, Doors::busy, d -> d.when(0));
        Edge.refused("without THE SUM", Check.NONE, SumDoor::new, d -> d.when(9));
        Edge.says(22, "BEYOND.");
        for (int p : NO_PRISONERS) {
            Edge.refused("PRISONER " + p, Check.BEYOND, Doors::busy, d -> d.when(p));
        }
    }

    private static void whenLate() {
        Edge.says(22, "STATE: he is OUT, or MINUTE is above 280.");
        Edge.refused("he is OUT", Check.STATE, Doors::busy, d -> d.when(2));
        Edge.told("MINUTE 280", 20, () -> gone(Doors.worker("x=99", 1, 999), 280), d -> d.when(0));
        Edge.refused("MINUTE 281", Check.STATE, () -> gone(Doors.worker("x=99", 1, 999), 281), d -> d.when(0));
        Edge.refused("MINUTE 480", Check.STATE, () -> Doors.at(480), d -> d.when(0));
        Edge.refused("MINUTE 280, NONE", Check.NONE, () -> Doors.at(280), d -> d.when(0));
        Edge.refused("PRISONER is asked first", Check.BEYOND, () -> Doors.at(480), d -> d.when(10));
        Edge.refused("PRISONER is asked first, below", Check.BEYOND, () -> Doors.at(480), d -> d.when(-1));
    }
}

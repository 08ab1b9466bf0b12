import java.util.function.IntFunction;
import java.util.function.ToIntFunction;

/** The boundaries of promises 1 to 11 and of the terms they use: THE TAPE, TEXTS, KINDS, HARD. */
public final class SumEdgesTest {
    private static final int MIN = Integer.MIN_VALUE;
    private static final int MAX = Integer.MAX_VALUE;

    public static void main(String[] args) {
        textsAreRead();
        faults();
        work();
        kindsAtTheirEdges();
        kindsGoRound();
        hard();
        newObject();
        feed();
        feedWhenFull();
        wipe();
        sum();
        sumWhenFull();
        sumOf();
        change();
        side();
        solves();
        solution();
        both();
        strict();
        Edge.finish(1, 11);
    }

    // ---- the terms

    private static void reads(String text) {
        Edge.due(text, 0, Check.sumFrom(new SumDoor(), text, 0, 10));
    }

    private static void fault(String text, int place) {
        Edge.due(text, -10 - place, Check.sumFrom(new SumDoor(), text, 0, 10));
    }

    private static void textsAreRead() {
        Edge.says(0, "(bytes, at most 40)");
        reads("x+x+x+x+x+x+x+x+x+x+x+x+x+x+x+x+x+x+x=10");
        Edge.says(0, "two SIDES, parted by the byte =");
        reads("x=x");
        fault("x", 1);
        fault("=x", 0);
        fault("x=", 2);
        fault("x==x", 2);
        fault("x=x=x", 3);
        fault("(x=x)", 2);
        Edge.says(0, "1 to 3 digits");
        reads("1=12");
        reads("123=999");
        reads("000=001");
        fault("1234=x", 3);
        fault("x=1234", 5);
        fault("x+(1000)=1", 6);
        fault("+=1", 0);
        fault("x*=1", 2);
        Edge.says(0, "( SIDE )");
        fault("()=1", 1);
        fault("(x+)=1", 3);
        fault("x)=1", 1);
        fault("x=x)", 3);
        fault("(x))=1", 3);
        Edge.says(0, "No blanks.");
        fault(" x=1", 0);
        fault("x =1", 1);
        fault("x= 1", 2);
        fault("x=1 ", 3);
        fault("x=1\t", 3);
        fault("x=1\n", 3);
        Edge.says(0, "At most 4 ( are open at once.");
        reads("((((x))))=((((1))))");
        reads("((((x)+(x))))=1");
        reads("((((x))))+((((x))))=1");
        fault("(((((x)))))=1", 4);
        fault("((((x)+((x))))=1", 8);
        fault("x=(((((1)))))", 6);
    }

    private static void faults() {
        Edge.says(0, "the first byte with which no TEXT (of any length) goes on");
        fault("X=1", 0);
        fault("\u0000=1", 0);
        fault("x\u00ff1", 1);
        fault("x=\u0080", 2);
        fault("x=y=z", 2);
        fault("-1=x", 0);
        fault("x--1=x", 2);
        fault("xx=1", 1);
        fault("2x=1", 1);
        fault("x2=1", 1);
        fault("x(1)=1", 1);
        fault("(x)1=1", 3);
        fault("(1)(1)=1", 3);
        fault("(1)2=1", 3);
        fault("x=(12)3", 6);
        fault("x^2=1", 1);
        fault("x/1=:", 4);
        // a TEXT of more than 40 bytes goes on with these, so it is the end that comes too early
        fault("x+x+x+x+x+x+x+x+x+x+x+x+x+x+x+x+x+x+((((", 40);
        fault("x+x+x+x+x+x+x+x+x+x+x+x+x+x+x+x+x+x+x+x+", 40);
        fault("x+x+x+x+x+x+x+x+x+x+x+x+x+x+x+x+x+x+x+99", 40);
        fault("x+x+x+x+x+x+x+x+x+x+x+x+x+x+x+x+x+x+x+x=", 40);
        fault("x+x+x+x+x+x+x+x+x+x+x+x+x+x+x+x+x+x+x=9+", 40);
        fault("x+x+x+x+x+x+x+x+x+x+x+x+x+x+x+x+x+x+x=9x", 39);
        Edge.says(0, "how many there are, if it ends too early");
        fault("", 0);
        fault("(", 1);
        fault("x+", 2);
        fault("(x", 2);
        fault("x=(x", 4);
        fault("x=((x)", 6);
        fault("123", 3);
        SumDoor again = new SumDoor();
        Edge.due("four are open", -15, Check.sumFrom(again, "((((x", 0, 10));
        Edge.due("none is as the next begins", 0, Check.sumFrom(again, "((((x))))=1", 0, 10));
        Edge.due("parted", -12, Check.sumFrom(again, "x=", 0, 10));
        Edge.due("the next is not", -11, Check.sumFrom(again, "x", 0, 10));
    }

    private static void sides(String text, int x, int left, int right) {
        SumDoor d = Doors.one(text, 0, 10);
        Edge.due("left of " + text + " by " + x, left, d.side(0, 0, x));
        Edge.due("right of " + text + " by " + x, right, d.side(0, 1, x));
        Edge.due("no finding of " + text, 0, d.status(-1));
    }

    private static void work() {
        Edge.says(0, "All is worked in ints that go round");
        sides("x+1=x-1", MAX, MIN, MAX - 1);
        sides("x+1=x-1", MIN, MIN + 1, MAX);
        sides("x*x=x*2", 65536, 0, 131072);
        sides("x*2=0-x", MIN, 0, MIN);
        sides("x*x=x*x*x", 46341, -2147479015, -1932785795);
        sides("999*999*999*999=512*512*512*16", 0, -426416671, MIN);
        Edge.says(0, "/ is cut, % the rest that it leaves");
        sides("x/2=x%2", 7, 3, 1);
        sides("x/2=x%2", -7, -3, -1);
        sides("7/x=7%x", -2, -3, 1);
        sides("x/3=x%3", -9, -3, 0);
        sides("x/9=x%9", 8, 0, 8);
        sides("x/9=x%9", -8, 0, -8);
        sides("x/(0-1)=x%(0-1)", MIN, MIN, 0);
        sides("x/x=x%x", MIN, 1, 0);
        Edge.says(0, "both by 0 are 0");
        sides("5/x=5%x", 0, 0, 0);
        sides("x/0=x%0", MIN, 0, 0);
        sides("0/0=0%0", 0, 0, 0);
        sides("9+5/(x-x)*3=9-5%(x-x)", 8, 9, 9);
    }

    private static void solved(String text, int kind, int m, int x, int want) {
        Edge.due(x + " in " + text + ", kind " + kind + " by " + m, want, Doors.one(text, kind, m).solves(0, x));
    }

    private static void many(String text, int kind, int m, int want) {
        Edge.due("how many in " + text + ", kind " + kind + " by " + m, want, Doors.one(text, kind, m).sumOf(0, 3));
    }

    private static void kindsAtTheirEdges() {
        Edge.says(0, "SUM: l is r.");
        many("x=0", 0, 10, 1);
        many("x=99", 0, 10, 1);
        many("x=100", 0, 10, 0);
        many("x=x", 0, 10, 100);
        Edge.says(0, "LESS: l is below r.");
        solved("x=40", 1, 10, 39, 1);
        solved("x=40", 1, 10, 40, 0);
        many("x=0", 1, 10, 0);
        many("x=100", 1, 10, 100);
        Edge.says(0, "MORE: l is above r (not as a LESS one).");
        solved("x=40", 5, 10, 39, 0);
        solved("x=40", 5, 10, 40, 0);
        solved("x=40", 5, 10, 41, 1);
        many("x=99", 5, 10, 0);
        Edge.says(0, "REST: l less r (going round) leaves no rest by m.");
        many("x=0", 2, 1, 100);
        many("x=0", 2, 99, 2);
        solved("x=99", 2, 99, 0, 1);
        solved("x=40", 2, 7, 33, 1);
        solved("x=40", 2, 7, 34, 0);
        Edge.says(0, "ODD: as a REST one, and x is odd.");
        many("x=0", 3, 1, 50);
        solved("x=0", 3, 99, 0, 0);
        solved("x=0", 3, 99, 99, 1);
        solved("x=40", 3, 7, 33, 1);
        solved("x=40", 3, 7, 26, 0);
        solved("x=40", 3, 7, 35, 0);
        Edge.says(0, "OTHER: not as a SUM.");
        many("x=0", 4, 10, 99);
        many("x=100", 4, 10, 100);
        many("x=x", 4, 10, 0);
        Edge.says(0, "NEAR: l less r (going round) is from -m to m.");
        int[][] near = {{48, 0}, {49, 1}, {50, 1}, {51, 1}, {52, 0}};
        for (int[] n : near) {
            solved("x=50", 6, 1, n[0], n[1]);
        }
        many("x=99", 6, 99, 100);
        many("x=100", 6, 99, 99);
        many("x+99=0", 6, 99, 1);
        many("x+100=0", 6, 99, 0);
    }

    /** MAX and MIN as TEXTS; MAX less MIN goes round to -1, MIN less MAX to 1. */
    private static void kindsGoRound() {
        String high = "512*512*512*16-1=512*512*512*16";
        String low = "512*512*512*16=512*512*512*16-1";
        sides(high, 0, MAX, MIN);
        Edge.says(0, "LESS: l is below r.");
        solved(high, 1, 10, 0, 0);
        solved(low, 1, 10, 0, 1);
        Edge.says(0, "MORE: l is above r (not as a LESS one).");
        solved(high, 5, 10, 0, 1);
        solved(low, 5, 10, 0, 0);
        Edge.says(0, "REST: l less r (going round) leaves no rest by m.");
        solved(high, 2, 1, 0, 1);
        solved(high, 2, 3, 0, 0);
        solved(low, 2, 3, 0, 0);
        Edge.says(0, "ODD: as a REST one, and x is odd.");
        solved(high, 3, 1, 1, 1);
        solved(high, 3, 3, 1, 0);
        Edge.says(0, "NEAR: l less r (going round) is from -m to m.");
        solved(high, 6, 1, 0, 1);
        solved(low, 6, 1, 0, 1);
        // the least int is no nearer to 0 for having no int above 0 that is as far
        String least = "512*512*512*16=0";
        solved(least, 6, 99, 0, 0);
        solved(least, 2, 64, 0, 1);
        solved(least, 2, 3, 0, 0);
    }

    private static void hardOf(String text, int... want) {
        for (int kind = 0; kind < want.length; kind++) {
            Edge.due(text + " of kind " + kind, want[kind], Doors.one(text, kind, 10).sumOf(0, 2));
        }
    }

    private static void hard() {
        Edge.says(0, "how many of + - * / % x and digits (each one) its TEXT has, together");
        hardOf("((((x))))=(1)", 2);
        hardOf("x+1-2*3/4%5=x", 12);
        Edge.says(0, "half of that (cut) more");
        hardOf("x=1", 2, 3, 2, 7, 2, 3, 2);
        hardOf("x=12", 3, 4, 3, 8, 3, 4, 3);
        hardOf("x+x+x+x+x+x+x+x+x+x+x+x+x+x+x+x+x+x+x=10", 39, 58, 39, 44, 39, 58, 39);
    }

    // ---- the promises

    private static void newObject() {
        Edge.says(1, "All as at first; no SUMS; THE TAPE is empty, no image is kept.");
        SumDoor d = new SumDoor();
        for (int which = -1; which <= 6; which++) {
            Edge.due("status " + which, 0, d.status(which));
        }
        int[] counts = {0, -1, 0, 999, 500, 0, 1, 0};
        for (int what = 0; what < counts.length; what++) {
            Edge.due("count " + what, counts[what], d.count(what));
        }
        Edge.due("no SUM", Check.BEYOND, d.sumOf(0, 0));
        Edge.due("nobody is OUT", 0, d.out());
        Edge.due("THE TAPE", 0, d.wipe());
        Edge.due("no image", Check.NONE, d.undo());
        Edge.due("none to tear", 0, d.tear());
        for (int spot = 0; spot <= 9; spot++) {
            Edge.due("SPOT " + spot, Check.MISSING, d.as(spot, 0));
        }
        for (int s = 0; s <= 3; s++) {
            Edge.due("SHEET " + s, Check.MISSING, d.write(s, 0, 0));
        }
        for (int p = 0; p <= 9; p++) {
            int[] parts = {3, 50, 10, p, 1, 0, -1, 0, 0};
            for (int what = 0; what < parts.length; what++) {
                Edge.due("part " + what + " of " + p, parts[what], d.of(p, what));
            }
        }
        SumDoor before = new SumDoor();
        Doors.busy().minutes(1);
        Edge.alike("another door has no part in it", new SumDoor(), before);
    }

    private static void feed() {
        Edge.says(2, "(n 1 to 4)");
        SumDoor d = new SumDoor();
        Edge.due("n 1, the lowest byte", 1, d.feed(0x3d3d3d78, 1));
        Edge.due("n 2, highest first", 3, d.feed(0x7878_2b78, 2));
        Edge.due("n 3", 6, d.feed(0xff3d3132, 3));
        Edge.due("it is x+x=12", 0, d.sum(0, 10));
        Edge.due("right", 12, d.side(0, 1, 0));
        Edge.due("left", 10, d.side(0, 0, 5));
        Edge.due("n 4", 4, d.feed(0x783d3231, 4));
        Edge.due("it is x=21", 1, d.sum(0, 10));
        Edge.due("right of it", 21, d.side(1, 1, 0));
        Edge.due("bytes above 127", 4, d.feed(-1, 4));
        Edge.says(2, "BEYOND: n.");
        for (int n : new int[] {0, 5, -1, MIN, MAX, 257, 260}) {
            Edge.refused("n " + n, Check.BEYOND, Doors::busy, b -> b.feed(0x78783d78, n));
        }
    }

    private static SumDoor tapeOf(int bytes) {
        SumDoor d = Doors.busy();
        d.wipe();
        for (int i = 0; i < bytes; i++) {
            d.feed(i % 2 == 0 ? 'x' : '+', 1);
        }
        return d;
    }

    private static void feedWhenFull() {
        Edge.says(2, "FULL.");
        for (int n = 1; n <= 4; n++) {
            int more = n;
            Edge.due("40 by " + n, 40, tapeOf(40 - n).feed(0x2b2b2b2b, more));
            Edge.refused("41 by " + n, Check.FULL, () -> tapeOf(41 - more), d -> d.feed(0x2b2b2b2b, more));
        }
        Edge.refused("four by 40", Check.FULL, () -> tapeOf(40), d -> d.feed(0, 4));
        Edge.refused("n is asked first", Check.BEYOND, () -> tapeOf(40), d -> d.feed(0, 5));
        Edge.refused("n is asked first, below", Check.BEYOND, () -> tapeOf(40), d -> d.feed(0, 0));
        SumDoor d = tapeOf(40);
        d.wipe();
        Edge.due("room again behind wipe()", 4, d.feed(0, 4));
    }

    private static void wipe() {
        Edge.says(3, "THE TAPE is empty: how many it had.");
        SumDoor d = tapeOf(40);
        Edge.due("full", 40, d.wipe());
        Edge.due("bytes", 0, d.count(5));
        Edge.due("empty", 0, d.wipe());
        Edge.due("no TEXT is left", -10, d.sum(0, 10));
        Edge.due("no findings", 0, d.status(-1));
        SumDoor e = new SumDoor();
        Check.feedText(e, "x+x=999");
        e.wipe();
        Check.feedText(e, "3=x");
        Edge.due("what was is gone", 0, e.sum(0, 10));
        Edge.due("3 alone", 3, e.side(0, 0, 0));
        Edge.due("x alone", 5, e.side(0, 1, 5));
        Edge.due("no sign more", 2, e.sumOf(0, 2));
    }

    private static void sum() {
        Edge.says(4, "its number; -10 less the FAULT (no finding)");
        SumDoor d = new SumDoor();
        Edge.due("an empty TAPE", -10, d.sum(0, 1));
        Edge.due("too early an end", -12, Check.sumFrom(d, "x=", 6, 99));
        Edge.due("THE TAPE is empty behind a FAULT", 0, d.count(5));
        Edge.due("no SUM came", 0, d.count(0));
        Edge.due("no finding", 0, d.status(-1));
        Edge.due("the first", 0, Check.sumFrom(d, "x=1", 0, 1));
        Edge.due("THE TAPE is empty then", 0, d.count(5));
        Edge.due("the next, kind 6, m 99", 1, Check.sumFrom(d, "x=2", 6, 99));
        Edge.due("kind", 6, d.sumOf(1, 0));
        Edge.due("m", 99, d.sumOf(1, 1));
        Edge.due("kind 0", 0, d.sumOf(0, 0));
        Edge.due("m 1", 1, d.sumOf(0, 1));
        Edge.says(4, "BEYOND: kind, m.");
        int[][] bad = {{-1, 10}, {7, 10}, {MIN, 10}, {MAX, 10}, {0, 0}, {0, 100}, {0, -1}, {0, MIN}, {0, MAX}, {7, 0}};
        for (int[] b : bad) {
            Edge.refused("kind " + b[0] + ", m " + b[1], Check.BEYOND, Doors::busy, c -> c.sum(b[0], b[1]));
        }
        Edge.refused("ahead of a FAULT", Check.BEYOND, () -> tapeOf(2), c -> c.sum(7, 10));
    }

    private static void sumWhenFull() {
        Edge.says(4, "FULL (ahead of a FAULT; THE TAPE stays by both).");
        Edge.due("the eighth is taken", 7, Doors.eight().count(0) - 1);
        Edge.refused("a ninth", Check.FULL, () -> Doors.eightAnd("x=1"), d -> d.sum(0, 10));
        Edge.refused("a FAULT", Check.FULL, () -> Doors.eightAnd("x=y"), d -> d.sum(0, 10));
        Edge.refused("an empty TAPE", Check.FULL, Doors::eight, d -> d.sum(6, 99));
        Edge.refused("kind is asked first", Check.BEYOND, () -> Doors.eightAnd("x=1"), d -> d.sum(7, 10));
        Edge.refused("m is asked first", Check.BEYOND, () -> Doors.eightAnd("x=1"), d -> d.sum(0, 100));
        SumDoor d = Doors.eightAnd("x=1");
        d.sum(0, 10);
        d.sum(7, 10);
        Edge.due("THE TAPE stays by both", 3, d.count(5));
        d.undo();
        Edge.due("what stayed is a TEXT yet", 2, d.sum(0, 10));
        Edge.due("it is x=1", 1, d.side(2, 1, 0));
    }

    private static void refusedSums(String what, IntFunction<ToIntFunction<SumDoor>> call) {
        for (int sum : new int[] {-1, 3, 8, MIN, MAX}) {
            Edge.refused(what + " " + sum, Check.BEYOND, Doors::busy, call.apply(sum));
        }
        Edge.refused(what + " 0, there is none", Check.BEYOND, SumDoor::new, call.apply(0));
    }

    private static void sumOf() {
        Edge.says(5, "what 0 KIND, 1 m, 2 HARD, 3 how many NUMBERS SOLVE it");
        Edge.told("the last SUM, KIND", 1, Doors::busy, d -> d.sumOf(2, 0));
        Edge.told("m", 30, Doors::busy, d -> d.sumOf(2, 1));
        Edge.told("HARD", 6, Doors::busy, d -> d.sumOf(2, 2));
        Edge.told("how many", 5, Doors::busy, d -> d.sumOf(2, 3));
        Edge.due("none", 0, Doors.one("x=100", 0, 1).sumOf(0, 3));
        Edge.due("all", 100, Doors.one("x=100", 1, 1).sumOf(0, 3));
        Edge.says(5, "BEYOND.");
        for (int what : new int[] {-1, 4, MIN, MAX}) {
            Edge.refused("what " + what, Check.BEYOND, Doors::busy, d -> d.sumOf(0, what));
        }
        refusedSums("sum", sum -> d -> d.sumOf(sum, 0));
    }

    private static void change() {
        Edge.says(6, "KIND (what 0), m (1) of a SUM becomes v: what it was.");
        SumDoor d = Doors.busy();
        int[][] taken = {{0, 6, 1}, {0, 0, 6}, {0, 0, 0}, {1, 99, 30}, {1, 1, 99}, {1, 1, 1}};
        for (int[] t : taken) {
            Edge.due("what " + t[0] + ", v " + t[1], t[2], d.change(2, t[0], t[1]));
            Edge.due("it is", t[1], d.sumOf(2, t[0]));
        }
        Edge.due("no other SUM", 2, d.sumOf(1, 0));
        Edge.says(6, "BEYOND.");
        int[][] bad = {{0, -1}, {0, 7}, {0, MIN}, {0, MAX}, {1, 0}, {1, 100}, {1, -1}, {1, MIN}, {1, MAX},
            {-1, 1}, {2, 1}, {MIN, 1}, {MAX, 1}};
        for (int[] b : bad) {
            Edge.refused("what " + b[0] + ", v " + b[1], Check.BEYOND, Doors::busy, c -> c.change(2, b[0], b[1]));
        }
        refusedSums("sum", sum -> c -> c.change(sum, 0, 1));
    }

    private static void side() {
        Edge.says(7, "A SIDE (0, 1) of a SUM with x any int.");
        Edge.told("x least", MIN, Doors::busy, d -> d.side(0, 0, MIN));
        Edge.told("x greatest", MAX, Doors::busy, d -> d.side(0, 0, MAX));
        Edge.told("goes round", -2, Doors::busy, d -> d.side(2, 0, MAX));
        Edge.told("side 1", 9, Doors::busy, d -> d.side(2, 1, MIN));
        for (int x = -1000008; x <= -1000001; x++) {
            int like = x;
            Edge.told("like a finding", x, Doors::busy, d -> d.side(0, 0, like));
        }
        Edge.says(7, "BEYOND.");
        for (int side : new int[] {-1, 2, MIN, MAX}) {
            Edge.refused("side " + side, Check.BEYOND, Doors::busy, d -> d.side(0, side, 0));
        }
        refusedSums("sum", sum -> d -> d.side(sum, 0, 0));
    }

    private static void solves() {
        Edge.says(8, "Whether a NUMBER SOLVES a SUM: 1, 0.");
        Edge.told("NUMBER 0", 1, Doors::busy, d -> d.solves(2, 0));
        Edge.told("NUMBER 99", 0, Doors::busy, d -> d.solves(2, 99));
        Edge.due("0 in x=0", 1, Doors.one("x=0", 0, 1).solves(0, 0));
        Edge.due("99 in x=99", 1, Doors.one("x=99", 0, 1).solves(0, 99));
        Edge.says(8, "BEYOND.");
        for (int x : new int[] {-1, 100, MIN, MAX}) {
            Edge.refused("x " + x, Check.BEYOND, Doors::busy, d -> d.solves(0, x));
        }
        refusedSums("sum", sum -> d -> d.solves(sum, 0));
    }

    private static void solution() {
        Edge.says(9, "The i-th NUMBER (from 0, by size) that SOLVES a SUM.");
        Edge.told("the first", 1, Doors::busy, d -> d.solution(1, 0));
        Edge.told("the last", 81, Doors::busy, d -> d.solution(1, 4));
        Edge.due("0 of all", 0, Doors.one("x=x", 0, 1).solution(0, 0));
        Edge.due("99 of all", 99, Doors.one("x=x", 0, 1).solution(0, 99));
        Edge.says(9, "BEYOND: i (0 to 99), too.");
        for (int i : new int[] {-1, 100, MIN, MAX}) {
            Edge.refused("i " + i, Check.BEYOND, Doors::busy, d -> d.solution(1, i));
        }
        Edge.refused("ahead of NONE", Check.BEYOND, () -> Doors.one("x=100", 0, 1), d -> d.solution(0, 100));
        refusedSums("sum", sum -> d -> d.solution(sum, 0));
        Edge.says(9, "NONE.");
        Edge.refused("one behind the last", Check.NONE, Doors::busy, d -> d.solution(1, 5));
        Edge.refused("i 99", Check.NONE, Doors::busy, d -> d.solution(1, 99));
        Edge.refused("no NUMBER SOLVES it", Check.NONE, () -> Doors.one("x=100", 0, 1), d -> d.solution(0, 0));
        Edge.refused("the hundredth of 99", Check.NONE, () -> Doors.one("x=0", 4, 1), d -> d.solution(0, 99));
    }

    private static void both() {
        Edge.says(10, "How many NUMBERS SOLVE both of two SUMS (or one, told twice).");
        Edge.told("two", 1, Doors::busy, d -> d.both(1, 2));
        Edge.told("the other way", 1, Doors::busy, d -> d.both(2, 1));
        Edge.told("none", 0, Doors::busy, d -> d.both(0, 2));
        Edge.told("one, told twice", 5, Doors::busy, d -> d.both(2, 2));
        Edge.due("all", 100, Doors.one("x=x", 0, 1).both(0, 0));
        Edge.says(10, "BEYOND.");
        refusedSums("one", sum -> d -> d.both(sum, 0));
        refusedSums("other", sum -> d -> d.both(0, sum));
    }

    private static void strict() {
        Edge.says(11, "m (1 to 99) by which fewest NUMBERS SOLVE a SUM, but some do.");
        Edge.told("m 1", 1, () -> Doors.one("x=50", 6, 99), d -> d.strict(0));
        Edge.told("m 99", 99, () -> Doors.one("x+99=0", 6, 10), d -> d.strict(0));
        Edge.told("but some do", 50, () -> Doors.one("x+50=0", 6, 10), d -> d.strict(0));
        Edge.told("all by each m: the least", 1, () -> Doors.one("x=x", 2, 10), d -> d.strict(0));
        Edge.told("as few by 50 to 99: the least", 50, () -> Doors.one("x=0", 2, 10), d -> d.strict(0));
        Edge.told("an ODD one, by m 35", 35, () -> Doors.one("x=0", 3, 10), d -> d.strict(0));
        Edge.told("m is nothing to it", 1, () -> Doors.one("x=50", 0, 10), d -> d.strict(0));
        Edge.says(11, "BEYOND.");
        refusedSums("sum", sum -> d -> d.strict(sum));
        Edge.says(11, "NONE.");
        Edge.refused("too far for 99", Check.NONE, () -> Doors.one("x+100=0", 6, 10), d -> d.strict(0));
        for (int kind : new int[] {0, 5}) {
            Edge.refused("by no m, kind " + kind, Check.NONE, () -> Doors.one("x=100", kind, 10), d -> d.strict(0));
        }
        Edge.refused("OTHER than itself", Check.NONE, () -> Doors.one("x=x", 4, 10), d -> d.strict(0));
    }
}

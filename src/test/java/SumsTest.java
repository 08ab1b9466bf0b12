/** Promises 1 to 11: a new object, THE TAPE, SUMS. */
public final class SumsTest {
    public static void main(String[] args) {
        newObject();
        feed();
        wipe();
        sum();
        faults();
        sumOf();
        change();
        side();
        solves();
        solution();
        both();
        strict();
        Check.finish();
    }

    private static void newObject() {
        SumDoor d = new SumDoor();
        int[] counts = {0, -1, 0, 999, 500, 0, 1, 0};
        for (int what = 0; what < counts.length; what++) {
            Check.due("1: count " + what, counts[what], d.count(what));
        }
        for (int p = 0; p < 10; p++) {
            int[] parts = {3, 50, 10, p, 1, 0, -1, 0, 0};
            for (int what = 0; what < parts.length; what++) {
                Check.due("1: of " + p + " " + what, parts[what], d.of(p, what));
            }
            if (p < 4) {
                Check.due("1: no sheet " + p, Check.MISSING, d.load(p));
            }
            Check.due("1: no spot " + p, Check.MISSING, d.as(p, 0));
        }
        Check.due("1: status", 14, d.status(-1));
        Check.due("1: no image", Check.NONE, d.undo());
        Check.due("1: no image to tear", 0, d.tear());
        Check.due("1: empty tape", -10, d.sum(0, 10));
    }

    private static void feed() {
        SumDoor d = new SumDoor();
        Check.due("2: n 0", Check.BEYOND, d.feed('x', 0));
        Check.due("2: n 5", Check.BEYOND, d.feed('x', 5));
        Check.due("2: n least int", Check.BEYOND, d.feed('x', Integer.MIN_VALUE));
        Check.due("2: lowest byte alone", 1, d.feed(0x12345678, 1));
        Check.due("2: highest first", 4, d.feed(0xff3d3931, 3));
        Check.due("2: text", 0, d.sum(0, 1));
        Check.due("2: text's right side", 91, d.side(0, 1, 0));
        for (int i = 1; i <= 9; i++) {
            Check.due("2: four each", 4 * i, d.feed(-1, 4));
        }
        Check.due("2: 38", 38, d.feed(0x7878, 2));
        Check.due("2: full by one", Check.FULL, d.feed(0x787878, 3));
        Check.due("2: a finding changes nothing", 38, d.count(5));
        Check.due("2: BEYOND ahead of FULL", Check.BEYOND, d.feed(0, 41));
        Check.due("2: just 40", 40, d.feed(0x7878, 2));
        Check.due("2: full", Check.FULL, d.feed('x', 1));
        Check.due("2: status", 4, d.status(0));
        Check.due("2: status FULL", 2, d.status(1));
    }

    private static void wipe() {
        SumDoor d = new SumDoor();
        Check.due("3: empty", 0, d.wipe());
        Check.feedText(d, "x=17");
        Check.due("3: had", 4, d.wipe());
        Check.due("3: empty then", 0, d.count(5));
        Check.due("3: again", 0, d.wipe());
        Check.due("3: begins anew", 1, d.feed('x', 1));
    }

    private static void sum() {
        SumDoor d = new SumDoor();
        Check.feedText(d, "x=17");
        int[][] bad = {{-1, 10}, {7, 10}, {0, 0}, {0, 100}, {0, -1}, {Integer.MAX_VALUE, Integer.MIN_VALUE}};
        for (int[] b : bad) {
            Check.due("4: BEYOND", Check.BEYOND, d.sum(b[0], b[1]));
        }
        Check.due("4: the tape stays by BEYOND", 4, d.count(5));
        Check.due("4: number", 0, d.sum(6, 99));
        Check.due("4: the tape is empty then", 0, d.count(5));
        Check.due("4: kind", 6, d.sumOf(0, 0));
        Check.due("4: m", 99, d.sumOf(0, 1));
        Check.feedText(d, "x=y");
        Check.due("4: a fault", -12, d.sum(0, 1));
        Check.due("4: the tape is empty behind a fault, too", 0, d.count(5));
        Check.due("4: a fault makes no sum", 1, d.count(0));
        for (int s = 1; s < 8; s++) {
            Check.due("4: next", s, Check.sumFrom(d, "x=1" + s, 0, 1));
        }
        Check.feedText(d, "x=y");
        Check.due("4: FULL ahead of a fault", Check.FULL, d.sum(0, 1));
        Check.due("4: the tape stays by FULL", 3, d.count(5));
        Check.due("4: BEYOND ahead of FULL", Check.BEYOND, d.sum(7, 1));
        Check.due("4: eight", 8, d.count(0));
        Check.due("4: a fault is no finding", 8, d.status(-1));
    }

    private static void faults() {
        String[] texts = {"x=1", "0=0", "007=999", "x+x-x*x/x%x=1", "((((x))))=((((1))))", "(x)+(((1)))=(x)*(2)",
            "1+(2-(3*(4/(5))))=x", "((((x))))+((((x))))=x"};
        for (String text : texts) {
            Check.due("4: " + text, 0, Check.sumFrom(new SumDoor(), text, 0, 1));
        }
        Object[][] faulty = {{"", 0}, {"x", 1}, {"x=", 2}, {"x=1+", 4}, {"=", 0}, {"x==1", 2}, {"x=1=1", 3},
            {"1234=x", 3}, {"x=1x", 3}, {"xx=1", 1}, {"x1=1", 1}, {"1x=1", 1}, {"(x=1", 2}, {"x)=1", 1}, {"()=1", 1},
            {"(((((x", 4}, {"((((x)+((1=", 8}, {"((((x)+(1))))=1=", 15}, {"-x=1", 0}, {"x--1=1", 2}, {"x+*1=1", 2},
            {"x =1", 1}, {" x=1", 0}, {"x=(1", 4}, {"x=(1))", 5}, {"X=1", 0}, {"x=1\u0000", 3}, {"x=\u00ff", 2},
            {"(x)(x)=1", 3}, {"(x)1=1", 3}, {"(1)2=1", 3}, {"x=(1)2", 5},
            {"1+2345=1", 5}, {"(x)x=1", 3}, {"x(1)=1", 1}, {"2(1)=1", 1}, {"x=1.", 3}, {"x=12345", 5},
            {"x+1", 3}, {"(", 1}, {"x=((x)", 6}, {"x<1", 1}, {"x:1", 1}, {"x=1\u00b1", 3}, {"x,1", 1}};
        for (Object[] f : faulty) {
            Check.due("4: " + f[0], -10 - (Integer) f[1], Check.sumFrom(new SumDoor(), (String) f[0], 0, 1));
        }
        SumDoor again = new SumDoor();
        Check.due("4: four are open at the end", -15, Check.sumFrom(again, "((((x", 0, 1));
        Check.due("4: a text is read anew", 0, Check.sumFrom(again, "((((x))))=1", 0, 1));
        Check.due("4: one side alone", -11, Check.sumFrom(again, "x", 0, 1));
        Check.due("4: parted anew", 1, Check.sumFrom(again, "x=1", 0, 1));
        String longest = "x*x*x*x*x*x*x*x*x*x*x*x*x*x*x*x*x*x*x=xx";
        Check.due("4: forty bytes, the last at fault", -49, Check.sumFrom(new SumDoor(), longest, 0, 1));
        Check.due("4: forty bytes, too early an end", -50,
                Check.sumFrom(new SumDoor(), longest.substring(0, 39) + "+", 0, 1));
        Check.due("4: forty good bytes", 0,
                Check.sumFrom(new SumDoor(), "x*x*x*x*x*x*x*x*x*x*x*x*x*x*x*x*x*x*x=12", 0, 1));
    }

    private static void sumOf() {
        SumDoor d = new SumDoor();
        Check.due("5: no sum", Check.BEYOND, d.sumOf(0, 0));
        Check.sumFrom(d, "(x+12)*3/4%5-x=007", 0, 10);
        int[] hard = {15, 22, 15, 20, 15, 22, 15};
        for (int kind = 0; kind < hard.length; kind++) {
            d.change(0, 0, kind);
            Check.due("5: kind " + kind, kind, d.sumOf(0, 0));
            Check.due("5: HARD " + kind, hard[kind], d.sumOf(0, 2));
        }
        Check.due("5: m", 10, d.sumOf(0, 1));
        Check.due("5: what 4", Check.BEYOND, d.sumOf(0, 4));
        Check.due("5: what -1", Check.BEYOND, d.sumOf(0, -1));
        Check.due("5: sum 1", Check.BEYOND, d.sumOf(1, 0));
        Check.due("5: sum -1", Check.BEYOND, d.sumOf(-1, 0));
        Check.sumFrom(d, "x=40", 0, 10);
        int[] many = {1, 40, 10, 0, 99, 59, 21};
        for (int kind = 0; kind < many.length; kind++) {
            d.change(1, 0, kind);
            Check.due("5: how many SOLVE, kind " + kind, many[kind], d.sumOf(1, 3));
        }
        Check.due("5: status", 5, d.status(-1));
    }

    private static void change() {
        SumDoor d = new SumDoor();
        Check.due("6: no sum", Check.BEYOND, d.change(0, 0, 0));
        Check.sumFrom(d, "x=40", 2, 10);
        Check.due("6: kind was", 2, d.change(0, 0, 6));
        Check.due("6: kind", 6, d.sumOf(0, 0));
        Check.due("6: m was", 10, d.change(0, 1, 99));
        Check.due("6: m", 99, d.sumOf(0, 1));
        Check.due("6: kind 0", 6, d.change(0, 0, 0));
        Check.due("6: m 1", 99, d.change(0, 1, 1));
        int[][] bad = {{0, 0, 7}, {0, 0, -1}, {0, 1, 0}, {0, 1, 100}, {0, 2, 1}, {0, -1, 1}, {1, 0, 0}, {-1, 0, 0}};
        for (int[] b : bad) {
            Check.due("6: BEYOND", Check.BEYOND, d.change(b[0], b[1], b[2]));
        }
        Check.due("6: kind stays", 0, d.sumOf(0, 0));
        Check.due("6: m stays", 1, d.sumOf(0, 1));
    }

    private static void sides(String text, int x, int left, int right) {
        SumDoor d = new SumDoor();
        Check.sumFrom(d, text, 0, 1);
        Check.due("7: left of " + text + " by " + x, left, d.side(0, 0, x));
        Check.due("7: right of " + text + " by " + x, right, d.side(0, 1, x));
        Check.due("7: no finding", 0, d.status(-1));
    }

    private static void side() {
        sides("2+3*4=20-6-4", 0, 14, 10);
        sides("100/7/2=100%7*3", 0, 7, 6);
        sides("(2+3)*4=2*(3+4)%5", 0, 20, 4);
        sides("20-(6-4)=2*3+4*5-6/3", 0, 18, 24);
        sides("10-4+3=10-(4+3)", 0, 9, 3);
        sides("((((x))))*2=(x+(x*(x-(x/2))))", 6, 12, 24);
        sides("(0-7)/2=(0-7)%2", 0, -3, -1);
        sides("7/(0-2)=7%(0-2)", 0, -3, 1);
        sides("5/0=5%0", 0, 0, 0);
        sides("1+5/(x-x)=2+5%(x-x)", 9, 1, 2);
        sides("x*x=x+x", 65536, 0, 131072);
        sides("x-1=x+x", Integer.MIN_VALUE, Integer.MAX_VALUE, 0);
        sides("x/(0-1)=x%(0-1)", Integer.MIN_VALUE, Integer.MIN_VALUE, 0);
        sides("007=0*x+12", -3, 7, 12);
        sides("x=x-1", Check.BEYOND, Check.BEYOND, Check.FULL);
        sides("999*999*999*999=x", 0, -426416671, 0);
        SumDoor d = new SumDoor();
        Check.due("7: no sum", Check.BEYOND, d.side(0, 0, 0));
        Check.sumFrom(d, "x=1", 0, 1);
        Check.due("7: side -1", Check.BEYOND, d.side(0, -1, 0));
        Check.due("7: side 2", Check.BEYOND, d.side(0, 2, 0));
        Check.due("7: sum -1", Check.BEYOND, d.side(-1, 0, 0));
    }

    private static void solved(String text, int kind, int m, int x, int want) {
        SumDoor d = new SumDoor();
        Check.sumFrom(d, text, kind, m);
        Check.due("8: " + x + " in " + text + " of kind " + kind + " by " + m, want, d.solves(0, x));
    }

    private static void solves() {
        int[] at39 = {0, 1, 0, 0, 1, 0, 1};
        int[] at40 = {1, 0, 1, 0, 0, 0, 1};
        int[] at41 = {0, 0, 0, 0, 1, 1, 1};
        int[] at47 = {0, 0, 1, 1, 1, 1, 1};
        for (int kind = 0; kind <= 6; kind++) {
            solved("x=40", kind, 7, 39, at39[kind]);
            solved("x=40", kind, 7, 40, at40[kind]);
            solved("x=40", kind, 7, 41, at41[kind]);
            solved("x=40", kind, 7, 47, at47[kind]);
        }
        solved("x=40", 6, 7, 33, 1);
        solved("x=40", 6, 7, 32, 0);
        solved("x=40", 6, 7, 48, 0);
        solved("x=40", 3, 7, 33, 1);
        solved("x=40", 3, 7, 54, 0);
        // 2^30 + 2^30 - 1 is the greatest int; less -1 it goes round to the least one
        String most = "(512*512*512*8-1)+512*512*512*8=0-1";
        SumDoor w = new SumDoor();
        Check.sumFrom(w, most, 6, 99);
        Check.due("8: left is the greatest int", Integer.MAX_VALUE, w.side(0, 0, 0));
        Check.due("8: NEAR goes round", 0, w.solves(0, 0));
        w.change(0, 0, 2);
        w.change(0, 1, 64);
        Check.due("8: REST goes round", 1, w.solves(0, 0));
        w.change(0, 1, 3);
        Check.due("8: REST of the least int", 0, w.solves(0, 0));
        w.change(0, 0, 5);
        Check.due("8: MORE does not go round", 1, w.solves(0, 0));
        w.change(0, 0, 1);
        Check.due("8: LESS does not go round", 0, w.solves(0, 0));
        Check.due("8: x -1", Check.BEYOND, w.solves(0, -1));
        Check.due("8: x 100", Check.BEYOND, w.solves(0, 100));
        Check.due("8: no sum", Check.BEYOND, w.solves(1, 0));
        Check.due("8: sum -1", Check.BEYOND, w.solves(-1, 0));
    }

    private static void solution() {
        SumDoor d = new SumDoor();
        Check.due("9: no sum", Check.BEYOND, d.solution(0, 0));
        Check.sumFrom(d, "x=41", 2, 20);
        int[] want = {1, 21, 41, 61, 81};
        for (int i = 0; i < want.length; i++) {
            Check.due("9: solution " + i, want[i], d.solution(0, i));
        }
        Check.due("9: none", Check.NONE, d.solution(0, 5));
        Check.due("9: none, 99", Check.NONE, d.solution(0, 99));
        Check.due("9: i 100", Check.BEYOND, d.solution(0, 100));
        Check.due("9: i -1", Check.BEYOND, d.solution(0, -1));
        d.change(0, 0, 2);
        d.change(0, 1, 1);
        Check.due("9: all, the last", 99, d.solution(0, 99));
        Check.due("9: status", 3, d.status(0));
        Check.due("9: status NONE", 2, d.status(3));
    }

    private static void both() {
        SumDoor d = new SumDoor();
        Check.due("10: no sum", Check.BEYOND, d.both(0, 0));
        Check.sumFrom(d, "x=0", 2, 4);
        Check.sumFrom(d, "x=0", 2, 6);
        Check.due("10: by 12", 9, d.both(0, 1));
        Check.due("10: the other way", 9, d.both(1, 0));
        Check.due("10: told twice", 25, d.both(0, 0));
        Check.due("10: one beyond", Check.BEYOND, d.both(-1, 0));
        Check.due("10: other beyond", Check.BEYOND, d.both(0, 2));
    }

    private static void strict() {
        SumDoor d = new SumDoor();
        Check.due("11: no sum", Check.BEYOND, d.strict(0));
        Check.sumFrom(d, "x=0", 2, 4);
        Check.due("11: REST: 0 and m by 50 to 99", 50, d.strict(0));
        Check.due("11: m stays", 4, d.sumOf(0, 1));
        d.change(0, 0, 3);
        Check.due("11: ODD: 3 * 33 is a NUMBER, 3 * 35 is none", 35, d.strict(0));
        d.change(0, 0, 6);
        Check.due("11: NEAR", 1, d.strict(0));
        d.change(0, 0, 1);
        Check.due("11: LESS: none", Check.NONE, d.strict(0));
        d.change(0, 0, 5);
        Check.due("11: MORE: m is nothing to it", 1, d.strict(0));
        d.change(0, 0, 4);
        Check.due("11: OTHER", 1, d.strict(0));
        Check.sumFrom(d, "x+50=0", 6, 4);
        Check.due("11: some do", 50, d.strict(1));
        Check.sumFrom(d, "x+100=0", 6, 4);
        Check.due("11: none do", Check.NONE, d.strict(2));
        Check.due("11: sum -1", Check.BEYOND, d.strict(-1));
        Check.due("11: sum 3", Check.BEYOND, d.strict(3));
        Check.sumFrom(d, "x+99=0", 6, 4);
        Check.due("11: by 99 alone", 99, d.strict(3));
        Check.sumFrom(d, "x=100", 4, 4);
        Check.due("11: all do by any", 1, d.strict(4));
    }
}

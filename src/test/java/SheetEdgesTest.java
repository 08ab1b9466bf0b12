/** The boundaries of promises 31 to 42 and of the terms they use: SPOTS, SHEETS, images, counts. */
public final class SheetEdgesTest {
    private static final int MIN = Integer.MIN_VALUE;
    private static final int MAX = Integer.MAX_VALUE;
    private static final int[] NO_SPOTS = {-1, 10, MIN, MAX};
    private static final int[] NO_SHEETS = {-1, 4, MIN, MAX};
    private static final int[] ALL_BITS = {8, 16, 32};

    public static void main(String[] args) {
        findingsInOrder();
        calls();
        hold();
        as();
        sheet();
        sheetRefused();
        write();
        writeBits();
        copy();
        copyRefused();
        load();
        judge();
        judgeRefused();
        image();
        undoAndTear();
        count();
        status();
        Edge.finish(31, 42);
    }

    /** Calls with all that can be wrong with them: the first finding of their words is told. */
    private static void findingsInOrder() {
        Edge.says(0, "Each act tells its findings in the order in which they are asked (that of its words)");
        Edge.due("feed", Check.BEYOND, fullOfAll().feed(0, 5));
        Edge.due("feed, then", Check.FULL, fullOfAll().feed(0, 4));
        Edge.due("sum", Check.BEYOND, fullOfAll().sum(7, 0));
        Edge.due("sum, then", Check.FULL, fullOfAll().sum(6, 99));
        Edge.due("solution", Check.BEYOND, fullOfAll().solution(0, 100));
        Edge.due("solution, then", Check.NONE, fullOfAll().solution(0, 1));
        Edge.due("school", Check.BEYOND, fullOfAll().school(3, 3));
        Edge.due("school, then", Check.STATE, fullOfAll().school(3, 4));
        Edge.due("minutes", Check.BEYOND, fullOfAll().minutes(101));
        Edge.due("minutes, then", Check.STATE, fullOfAll().minutes(100));
        Edge.due("ahead", Check.BEYOND, fullOfAll().ahead(200, 3));
        Edge.due("ahead, then", Check.STATE, fullOfAll().ahead(200, 2));
        Edge.due("when", Check.BEYOND, fullOfAll().when(10));
        Edge.due("when, then", Check.STATE, fullOfAll().when(9));
        Edge.due("when, STATE ahead of NONE", Check.STATE, Doors.at(281).when(0));
        Edge.due("choose", Check.BEYOND, new SumDoor().choose(201));
        Edge.due("choose, then", Check.NONE, new SumDoor().choose(200));
        Edge.due("fewest", Check.BEYOND, new SumDoor().fewest(101));
        Edge.due("fewest, then", Check.NONE, new SumDoor().fewest(100));
        Edge.due("richFor", Check.BEYOND, new SumDoor().richFor(101));
        Edge.due("richFor, then", Check.STATE, new SumDoor().richFor(100));
        Edge.due("as", Check.BEYOND, new SumDoor().as(0, 7));
        Edge.due("as, then", Check.MISSING, new SumDoor().as(0, 6));
        Edge.due("sheet", Check.BEYOND, new SumDoor().sheet(0, 9, -1));
        Edge.due("sheet, then", Check.SIZE, new SumDoor().sheet(0, 0, -1));
        Edge.due("write", Check.BEYOND, Doors.busy().write(4, -1, 0));
        Edge.due("write, then", Check.MISSING, Doors.busy().write(3, -1, 0));
        Edge.due("write, at last", Check.BEYOND, Doors.busy().write(2, -1, 0));
        Edge.due("copy", Check.BEYOND, Doors.busy().copy(3, -1, 4, -1, -1));
        Edge.due("copy, then", Check.MISSING, Doors.busy().copy(3, -1, 2, -1, -1));
        Edge.due("copy, then", Check.KIND, Doors.busy().copy(1, -1, 2, -1, -1));
        Edge.due("copy, at last", Check.BEYOND, Doors.busy().copy(1, -1, 0, -1, -1));
        Edge.due("judge", Check.BEYOND, Doors.busy().judge(4, 3));
        Edge.due("judge, then", Check.MISSING, Doors.busy().judge(3, 3));
        Edge.due("judge, at last", Check.BEYOND, Doors.busy().judge(2, 3));
    }

    /** Eight SUMS, a TAPE of 40 bytes, MINUTE 480. */
    private static SumDoor fullOfAll() {
        SumDoor d = Doors.eight();
        for (int i = 0; i < 10; i++) {
            d.feed(0, 4);
        }
        for (int i = 0; i < 24; i++) {
            d.minutes(20);
        }
        return d;
    }

    private static void calls() {
        Edge.says(0, "An object is used for at most 512 calls after it has been made");
        SumDoor d = new SumDoor();
        d.image();
        for (int turn = 0; turn < 127; turn++) {
            d.feed(0x783d3137, 4);
            Edge.due("a SUM in turn " + turn, 0, d.sum(0, 10));
            d.choose(200);
            d.undo();
        }
        Edge.due("call 510", 4, d.feed(0x783d3137, 4));
        Edge.due("call 511", 0, d.sum(0, 10));
        Edge.due("call 512", 1023, d.lets(0, 200));
        SumDoor counted = new SumDoor();
        for (int call = 1; call <= 511; call++) {
            counted.undo();
        }
        Edge.due("511 findings", 511, counted.status(3));
    }

    private static void hold() {
        Edge.says(31, "A SPOT holds a SUM, or nothing (-1): 1.");
        SumDoor d = Doors.busy();
        for (int spot = 0; spot <= 9; spot += 9) {
            Edge.due("SPOT " + spot, 1, d.hold(spot, 2));
            Edge.due("it holds", 2, d.as(spot, 0));
            Edge.due("nothing", 1, d.hold(spot, -1));
            Edge.due("it does not", Check.MISSING, d.as(spot, 0));
            Edge.due("nothing again", 1, d.hold(spot, -1));
        }
        Edge.due("the eighth SUM", 1, Doors.eight().hold(0, 7));
        Edge.says(31, "BEYOND.");
        for (int spot : NO_SPOTS) {
            Edge.refused("SPOT " + spot, Check.BEYOND, Doors::busy, b -> b.hold(spot, 0));
            Edge.refused("nothing in SPOT " + spot, Check.BEYOND, Doors::busy, b -> b.hold(spot, -1));
        }
        for (int sum : new int[] {-2, 3, 8, MIN, MAX}) {
            Edge.refused("SUM " + sum, Check.BEYOND, Doors::busy, b -> b.hold(1, sum));
        }
        Edge.refused("SUM 0, there is none", Check.BEYOND, SumDoor::new, b -> b.hold(0, 0));
        Edge.refused("a ninth SUM", Check.BEYOND, Doors::eight, b -> b.hold(0, 8));
    }

    private static SumDoor spotOf(int kind) {
        SumDoor d = Doors.one("x=1", kind, 10);
        d.hold(9, 0);
        return d;
    }

    private static void as() {
        String[] fits = {"0", "01", "02", "023", "04", "015", "06"};
        for (int kind = 0; kind <= 6; kind++) {
            int its = kind;
            for (int asked = 0; asked <= 6; asked++) {
                int as = asked;
                if (fits[kind].indexOf('0' + as) >= 0) {
                    Edge.says(32, "as one of a kind (0 to 6): the number of the SUM");
                    Edge.told("kind " + kind + " as " + as, 0, () -> spotOf(its), d -> d.as(9, as));
                } else {
                    Edge.says(32, "KIND: it isn't of that kind, nor of one under it.");
                    Edge.refused("kind " + kind + " as " + as, Check.KIND, () -> spotOf(its), d -> d.as(9, as));
                }
            }
        }
        Edge.says(32, "BEYOND.");
        for (int spot : NO_SPOTS) {
            Edge.refused("SPOT " + spot, Check.BEYOND, Doors::busy, d -> d.as(spot, 0));
        }
        for (int kind : new int[] {-1, 7, MIN, MAX}) {
            Edge.refused("kind " + kind, Check.BEYOND, Doors::busy, d -> d.as(1, kind));
            Edge.refused("ahead of MISSING, kind " + kind, Check.BEYOND, Doors::busy, d -> d.as(0, kind));
        }
        Edge.says(32, "MISSING: it holds nothing.");
        for (int kind = 0; kind <= 6; kind++) {
            int asked = kind;
            Edge.refused("kind " + kind, Check.MISSING, Doors::busy, d -> d.as(0, asked));
        }
        Edge.refused("no SUMS", Check.MISSING, SumDoor::new, d -> d.as(9, 6));
    }

    /** Number i of SHEET 0 is v: SHEET 3 takes it alone, and SUM v, of judges(), has it judged. */
    private static void numberIs(String what, SumDoor d, int bits, int i, int v) {
        d.sheet(3, bits, 1);
        d.write(3, 0, v + 1);
        d.copy(0, i, 3, 0, 1);
        Edge.due(what + ", number " + i, 0, d.judge(3, v));
    }

    /** SUMS x=0 to x=7, to judge single numbers by. */
    private static SumDoor judges() {
        SumDoor d = new SumDoor();
        for (int s = 0; s <= 7; s++) {
            Check.sumFrom(d, "x=" + s, 0, 10);
        }
        return d;
    }

    private static void sheet() {
        Edge.says(33, "A sheet has n numbers, all 0, of 8, 16 or 32 bits");
        for (int bits : ALL_BITS) {
            SumDoor d = judges();
            Edge.due("40 of " + bits, 40, d.sheet(0, bits, 40));
            d.write(0, 0, 5);
            d.write(0, 39, 5);
            numberIs("as written", d, bits, 39, 5);
            Edge.due("40 again", 40, d.sheet(0, bits, 40));
            for (int i : new int[] {0, 1, 38, 39}) {
                numberIs("all 0", d, bits, i, 0);
            }
            Edge.due("none of " + bits, 0, d.sheet(0, bits, 0));
            Edge.due("it isn't MISSING", 0, d.copy(0, 0, 0, 0, 0));
            Edge.due("but has no number", Check.BEYOND, d.write(0, 0, 0));
            Edge.due("3 of " + bits, 3, d.sheet(3, bits, 3));
        }
        Edge.says(33, "bits 0: it is MISSING: n (0 if it is MISSING)");
        for (int n : new int[] {0, 1, 40}) {
            SumDoor d = Doors.busy();
            Edge.due("n " + n, 0, d.sheet(0, 0, n));
            Edge.due("it is MISSING", Check.MISSING, d.load(0));
            Edge.due("once more", 0, d.sheet(0, 0, n));
            Edge.due("no other one is", 4, d.load(1));
        }
        Edge.says(0, "rows of at most 40 numbers of 8, 16 or 32 bits");
        SumDoor d = judges();
        d.sheet(0, 8, 3);
        d.write(0, 2, 5);
        d.sheet(0, 8, 2);
        d.sheet(0, 8, 3);
        numberIs("what was is gone", d, 8, 2, 0);
    }

    private static void sheetRefused() {
        Edge.says(33, "BEYOND: no such sheet, other bits.");
        for (int s : NO_SHEETS) {
            Edge.refused("SHEET " + s, Check.BEYOND, Doors::busy, d -> d.sheet(s, 8, 1));
            Edge.refused("SHEET " + s + ", bits 0", Check.BEYOND, Doors::busy, d -> d.sheet(s, 0, 1));
            Edge.refused("SHEET " + s + " ahead of SIZE", Check.BEYOND, Doors::busy, d -> d.sheet(s, 8, -1));
        }
        for (int bits : new int[] {-1, 1, 7, 9, 15, 17, 24, 31, 33, 64, -8, -32, MIN, MAX}) {
            Edge.refused("bits " + bits, Check.BEYOND, Doors::busy, d -> d.sheet(0, bits, 1));
            Edge.refused("bits " + bits + " ahead of SIZE", Check.BEYOND, Doors::busy, d -> d.sheet(0, bits, -1));
        }
        for (int bits : new int[] {0, 8, 16, 32}) {
            Edge.says(33, "SIZE: n is below 0 (also with bits 0).");
            for (int n : new int[] {-1, MIN}) {
                Edge.refused("bits " + bits + ", n " + n, Check.SIZE, Doors::busy, d -> d.sheet(0, bits, n));
            }
            Edge.says(33, "BEYOND: n is above 40 (also with bits 0).");
            for (int n : new int[] {41, MAX}) {
                Edge.refused("bits " + bits + ", n " + n, Check.BEYOND, Doors::busy, d -> d.sheet(0, bits, n));
            }
        }
    }

    private static void write() {
        Edge.says(34, "Number i of a sheet becomes v (its lowest bits): 1.");
        SumDoor d = judges();
        d.sheet(0, 8, 40);
        Edge.due("the first", 1, d.write(0, 0, 7));
        Edge.due("the last", 1, d.write(0, 39, 6));
        numberIs("the first", d, 8, 0, 7);
        numberIs("no other", d, 8, 1, 0);
        numberIs("nor this", d, 8, 38, 0);
        numberIs("the last", d, 8, 39, 6);
        Edge.says(34, "BEYOND: no such sheet.");
        for (int s : NO_SHEETS) {
            Edge.refused("SHEET " + s, Check.BEYOND, Doors::busy, b -> b.write(s, 0, 1));
        }
        Edge.says(34, "MISSING.");
        for (int i : new int[] {0, -1, 40, MIN, MAX}) {
            Edge.refused("number " + i, Check.MISSING, Doors::busy, b -> b.write(3, i, 1));
        }
        Edge.says(34, "BEYOND: no such number.");
        for (int i : new int[] {-1, 6, 39, 40, MIN, MAX}) {
            Edge.refused("number " + i + " of 6", Check.BEYOND, Doors::busy, b -> b.write(0, i, 9));
        }
        Edge.refused("number 0 of none", Check.BEYOND, SheetEdgesTest::emptySheet, b -> b.write(0, 0, 9));
        Edge.refused("number -1 of none", Check.BEYOND, SheetEdgesTest::emptySheet, b -> b.write(0, -1, 9));
    }

    private static SumDoor emptySheet() {
        SumDoor d = Doors.busy();
        d.sheet(0, 8, 0);
        return d;
    }

    private static void writeBits() {
        Edge.says(34, "(its lowest bits)");
        int[][] due = {{8, 0x104, 4}, {8, 0xffffff04, 4}, {8, MIN, 0}, {8, 0x100, 0}, {16, 0x10004, 4},
            {16, 0xffff0004, 4}, {16, MIN, 0}, {16, 0x10000, 0}, {32, 4, 4}, {32, 0, 0}};
        for (int[] c : due) {
            SumDoor d = judges();
            d.sheet(0, c[0], 1);
            d.write(0, 0, c[1]);
            Edge.due(c[0] + " bits of " + c[1], 0, d.judge(0, c[2]));
        }
        Edge.says(0, "(told with their sign: of 8 bits 255 is -1)");
        int[][] other = {{8, 255}, {8, -1}, {8, 128}, {8, MAX}, {16, 0x104}, {16, 65535}, {16, 32768}, {16, MAX},
            {32, 0x10004}, {32, 0x104}, {32, MIN}, {32, MAX}, {32, -1}};
        for (int[] c : other) {
            SumDoor d = Doors.one("x=x", 0, 10);
            d.sheet(0, c[0], 1);
            d.write(0, 0, c[1]);
            Edge.due(c[0] + " bits of " + c[1] + " are no SKILL", 0, d.load(0));
            Edge.due(c[0] + " bits of " + c[1] + " are not the first NUMBER", 1, d.judge(0, 0));
        }
    }

    private static void numbers(String what, SumDoor d, int s, int... want) {
        Edge.due(what + ", how many", want.length, d.load(s));
        for (int i = 0; i < want.length; i++) {
            Edge.due(what + ", number " + i, want[i], d.of(i, 0));
        }
    }

    private static void copied(String what, int[] how, int s, int... want) {
        SumDoor d = Doors.busy();
        Edge.due(what, how[4], d.copy(how[0], how[1], how[2], how[3], how[4]));
        numbers(what, d, s, want);
    }

    private static void copy() {
        Edge.says(35, "n numbers of a sheet from one on come to another one from one on (as they all were): n.");
        copied("the first ones", new int[] {0, 0, 1, 0, 4}, 1, 1, 2, 3, 4);
        copied("the last one", new int[] {0, 5, 1, 3, 1}, 1, 9, 9, 9, 6);
        copied("the other sheet stays", new int[] {0, 0, 1, 0, 4}, 0, 1, 2, 3, 4, 5, 6);
        copied("all of the lesser", new int[] {1, 0, 0, 2, 4}, 0, 1, 2, 9, 9, 9, 9);
        copied("one upwards", new int[] {0, 0, 0, 1, 5}, 0, 1, 1, 2, 3, 4, 5);
        copied("one downwards", new int[] {0, 1, 0, 0, 5}, 0, 2, 3, 4, 5, 6, 6);
        copied("onto itself", new int[] {0, 0, 0, 0, 6}, 0, 1, 2, 3, 4, 5, 6);
        copied("none", new int[] {0, 0, 1, 0, 0}, 1, 9, 9, 9, 9);
        copied("none at their ends", new int[] {0, 6, 1, 4, 0}, 1, 9, 9, 9, 9);
        Edge.told("none of none", 0, SheetEdgesTest::emptySheet, d -> d.copy(0, 0, 0, 0, 0));
        SumDoor d = judges();
        d.sheet(0, 32, 40);
        d.sheet(1, 32, 40);
        d.write(1, 39, 7);
        Edge.due("forty", 40, d.copy(1, 0, 0, 0, 40));
        numberIs("forty", d, 32, 39, 7);
    }

    private static void copyRefused() {
        Edge.says(35, "BEYOND: no such sheet (either).");
        for (int s : NO_SHEETS) {
            Edge.refused("from " + s, Check.BEYOND, Doors::busy, d -> d.copy(s, 0, 1, 0, 1));
            Edge.refused("to " + s, Check.BEYOND, Doors::busy, d -> d.copy(0, 0, s, 0, 1));
            Edge.refused("from a MISSING one to " + s, Check.BEYOND, Doors::busy, d -> d.copy(3, 0, s, 0, 1));
            Edge.refused("from " + s + " to a MISSING one", Check.BEYOND, Doors::busy, d -> d.copy(s, 0, 3, 0, 1));
        }
        Edge.says(35, "MISSING: one is.");
        int[][] missing = {{3, 0, 1, 0, 1}, {0, 0, 3, 0, 1}, {3, 0, 3, 0, 0}, {3, -1, 1, 0, 1}, {0, 0, 3, 0, -1},
            {0, 0, 3, 99, 99}};
        refusedCopies(Check.MISSING, missing);
        Edge.says(35, "KIND: they are not of as many bits.");
        refusedCopies(Check.KIND, new int[][] {{0, 0, 2, 0, 1}, {2, 0, 0, 0, 1}, {0, 0, 2, 0, 0}, {0, -1, 2, 0, 1},
            {2, 0, 1, 0, 99}, {2, 0, 1, 0, -1}});
        Edge.says(35, "BEYOND: one has not so many (n 0, too), or from, to or n is below 0.");
        refusedCopies(Check.BEYOND, new int[][] {{0, 0, 1, 0, 5}, {1, 0, 0, 0, 5}, {0, 3, 1, 0, 4}, {0, 0, 1, 1, 4},
            {0, 6, 1, 0, 1}, {0, 0, 1, 4, 1}, {0, 7, 1, 0, 0}, {0, 0, 1, 5, 0}, {0, MAX, 1, 0, 0}, {0, 0, 1, MAX, 0},
            {0, -1, 1, 0, 1}, {0, 0, 1, -1, 1}, {0, 0, 1, 0, -1}, {0, -1, 1, 0, 0}, {0, 0, 1, -1, 0}, {0, MIN, 1, 0, 1},
            {0, 0, 1, MIN, 1}, {0, 0, 1, 0, MIN}, {0, 0, 1, 0, MAX}, {0, 1, 1, 1, MAX}, {0, MAX, 1, MAX, MAX},
            {0, MIN, 1, MIN, MIN}, {0, 7, 1, 5, -1}, {0, 1, 0, 0, 6}});
        Edge.refused("one of none", Check.BEYOND, SheetEdgesTest::emptySheet, d -> d.copy(0, 0, 0, 0, 1));
    }

    private static void refusedCopies(int finding, int[][] copies) {
        for (int[] c : copies) {
            Edge.refused(java.util.Arrays.toString(c), finding, Doors::busy, d -> d.copy(c[0], c[1], c[2], c[3], c[4]));
        }
    }

    /** SKILL of all is 3; SHEET 0 of those bits has the numbers. */
    private static SumDoor loaded(int bits, int... numbers) {
        SumDoor d = new SumDoor();
        d.sheet(0, bits, numbers.length);
        for (int i = 0; i < numbers.length; i++) {
            d.write(0, i, numbers[i]);
        }
        return d;
    }

    private static void load() {
        Edge.says(36, "It ends at the first that isn't 1 to 9, or for which there is no PRISONER.");
        for (int bits : ALL_BITS) {
            for (int wrong : new int[] {0, 10, -1, 127}) {
                SumDoor d = loaded(bits, 1, 9, wrong, 5);
                Edge.due(bits + " bits, " + wrong, 2, d.load(0));
                int[] skill = {1, 9, 3, 3};
                for (int p = 0; p < skill.length; p++) {
                    Edge.due("SKILL of " + p, skill[p], d.of(p, 0));
                }
            }
        }
        SumDoor many = loaded(8, 9, 8, 7, 6, 5, 4, 3, 2, 1, 2, 9, 9);
        Edge.due("ten of twelve", 10, many.load(0));
        Edge.due("the first", 9, many.of(0, 0));
        Edge.due("the tenth", 2, many.of(9, 0));
        Edge.due("just ten", 10, loaded(8, 1, 1, 1, 1, 1, 1, 1, 1, 1, 1).load(0));
        Edge.due("nine", 9, loaded(8, 1, 1, 1, 1, 1, 1, 1, 1, 1).load(0));
        Edge.due("an eleventh that isn't 1 to 9", 10, loaded(8, 1, 1, 1, 1, 1, 1, 1, 1, 1, 1, 0).load(0));
        Edge.told("an empty sheet", 0, SheetEdgesTest::emptySheet, d -> d.load(0));
        Edge.told("none at its begin", 0, () -> loaded(8, 0, 5), d -> d.load(0));
        Edge.says(36, "BEYOND: no such sheet.");
        for (int s : NO_SHEETS) {
            Edge.refused("SHEET " + s, Check.BEYOND, Doors::busy, d -> d.load(s));
        }
        Edge.says(36, "MISSING.");
        Edge.refused("SHEET 3", Check.MISSING, Doors::busy, d -> d.load(3));
    }

    /** SUM 0 is solved by 1, 41 and 81; SHEET 0 of 8 bits has the numbers. */
    private static SumDoor judged(int... numbers) {
        SumDoor d = loaded(8, numbers);
        Check.sumFrom(d, "x=41", 2, 40);
        return d;
    }

    /** SUM 0 is solved by as many NUMBERS as told, from 0 on; SHEET 0 has forty, from 0 on. */
    private static SumDoor forty(int solvers) {
        int[] numbers = new int[40];
        for (int i = 0; i < numbers.length; i++) {
            numbers[i] = i;
        }
        SumDoor d = loaded(16, numbers);
        Check.sumFrom(d, "x=" + solvers, 1, 10);
        return d;
    }

    private static void judge() {
        Edge.says(37, "0 if so; else 1 and how many are right, from the first on");
        int[][] due = {{0, 1, 41, 81}, {1}, {2, 1}, {3, 1, 41}, {4, 1, 41, 81, 0}, {4, 1, 41, 81, 81}, {1, 0, 41, 81},
            {2, 1, 40, 81}, {3, 1, 41, 82}, {1, 41, 1, 81}, {2, 1, 1, 41}, {2, 1, 81}};
        for (int[] c : due) {
            int[] numbers = java.util.Arrays.copyOfRange(c, 1, c.length);
            Edge.told(java.util.Arrays.toString(numbers), c[0], () -> judged(numbers), d -> d.judge(0, 0));
        }
        Edge.told("forty of forty", 0, () -> forty(40), d -> d.judge(0, 0));
        Edge.told("forty of 39", 40, () -> forty(39), d -> d.judge(0, 0));
        Edge.told("forty of 41", 41, () -> forty(41), d -> d.judge(0, 0));
        Edge.told("forty of 100", 41, () -> forty(100), d -> d.judge(0, 0));
        Edge.told("forty of none", 1, () -> forty(0), d -> d.judge(0, 0));
        SumDoor none = Doors.one("x=100", 0, 10);
        none.sheet(0, 8, 0);
        Edge.due("none of none", 0, none.judge(0, 0));
    }

    private static void judgeRefused() {
        Edge.says(37, "BEYOND: no such sheet.");
        for (int s : NO_SHEETS) {
            Edge.refused("SHEET " + s, Check.BEYOND, Doors::busy, d -> d.judge(s, 0));
            Edge.refused("SHEET " + s + ", no SUM", Check.BEYOND, Doors::busy, d -> d.judge(s, 3));
        }
        Edge.says(37, "MISSING.");
        Edge.refused("SHEET 3", Check.MISSING, Doors::busy, d -> d.judge(3, 0));
        Edge.refused("ahead of no SUM", Check.MISSING, Doors::busy, d -> d.judge(3, 3));
        Edge.refused("ahead of SUM -1", Check.MISSING, SumDoor::new, d -> d.judge(0, -1));
        Edge.says(37, "BEYOND: no such SUM.");
        for (int sum : new int[] {-1, 3, 8, MIN, MAX}) {
            Edge.refused("SUM " + sum, Check.BEYOND, Doors::busy, d -> d.judge(0, sum));
        }
        Edge.refused("SUM 0, there is none", Check.BEYOND, () -> loaded(8, 1), d -> d.judge(0, 0));
    }

    private static void image() {
        Edge.says(38, "All but THE TAPE and SHEETS is kept: 1.");
        SumDoor d = new SumDoor();
        Edge.due("of a new object", 1, d.image());
        for (int s = 0; s <= 7; s++) {
            Check.sumFrom(d, "x=0", 0, 10);
        }
        d.set(7);
        d.minutes(100);
        d.hold(0, 7);
        Check.feedText(d, "x=1");
        d.sheet(0, 8, 1);
        d.write(0, 0, 5);
        Edge.due("MINUTE 0 again", 0, d.undo());
        int[] counts = {0, -1, 0, 999, 500, 3, 1, 0};
        for (int what = 0; what < counts.length; what++) {
            Edge.due("count " + what, counts[what], d.count(what));
        }
        Edge.due("SPOT 0 held nothing", Check.MISSING, d.as(0, 0));
        Edge.due("SHEETS stay", 1, d.load(0));
        Edge.due("room for a SUM again", 0, d.sum(0, 10));
        Edge.due("it is what was on THE TAPE", 1, d.solution(0, 0));
        imageOfAll();
        SumDoor late = Doors.at(480);
        late.image();
        late.day();
        Edge.due("MINUTE 480", 480, late.undo());
        Edge.due("and no more of them", Check.STATE, late.minutes(1));
    }

    private static void imageOfAll() {
        SumDoor full = Doors.eight();
        full.seed(5);
        full.hold(0, 0);
        full.hold(9, 7);
        full.image();
        full.alms(1);
        full.hold(0, 1);
        full.hold(9, -1);
        full.hold(5, 5);
        for (int sum = 0; sum <= 7; sum += 7) {
            full.change(sum, 0, 6);
            full.change(sum, 1, 99);
        }
        full.undo();
        Edge.due("eight are kept", 8, full.count(0));
        for (int sum = 0; sum <= 7; sum += 7) {
            Edge.due("kind of " + sum, 0, full.sumOf(sum, 0));
            Edge.due("m of " + sum, 10, full.sumOf(sum, 1));
            Edge.due("TEXT of " + sum, 10 + sum, full.solution(sum, 0));
        }
        Edge.due("z", 5, full.count(6));
        Edge.due("SPOT 0", 0, full.as(0, 0));
        Edge.due("SPOT 9", 7, full.as(9, 0));
        Edge.due("SPOT 5", Check.MISSING, full.as(5, 0));
    }

    private static void undoAndTear() {
        Edge.says(39, "It becomes what was kept latest (which stays): MINUTE.");
        SumDoor d = Doors.busy();
        Edge.due("once", 2, d.undo());
        d.minutes(100);
        Edge.due("twice", 2, d.undo());
        Edge.due("at once again", 2, d.undo());
        d.minutes(5);
        d.image();
        Edge.due("the latest", 7, d.undo());
        Edge.says(39, "NONE: nothing is kept.");
        Edge.refused("a new object", Check.NONE, SumDoor::new, SumDoor::undo);
        Edge.refused("torn", Check.NONE, SheetEdgesTest::torn, SumDoor::undo);
        Edge.says(40, "Nothing is kept: 1 if something was, else 0.");
        Edge.told("nothing was", 0, SumDoor::new, SumDoor::tear);
        Edge.told("nothing was any more", 0, SheetEdgesTest::torn, SumDoor::tear);
        SumDoor two = Doors.busy();
        two.image();
        Edge.due("something was", 1, two.tear());
        Edge.due("no earlier one is left", 0, two.tear());
        Edge.due("nothing to undo", Check.NONE, two.undo());
        Edge.due("all is as it was", 4, two.count(2));
    }

    private static SumDoor torn() {
        SumDoor d = Doors.busy();
        d.tear();
        return d;
    }

    private static void count() {
        Edge.says(41, "4 CHALK of all together, 5 bytes of THE TAPE, 6 z, 7 how many are OUT.");
        int[] chalk = {46, 46, 38, 46, 47, 48, 47, 46, 46, 46};
        for (int p = 0; p <= 9; p++) {
            Edge.due("CHALK of " + p, chalk[p], Doors.busy().of(p, 1));
        }
        int[] due = {3, 0, 4, 44, 456, 3, 77, 1};
        for (int what = 0; what <= 7; what++) {
            int asked = what;
            Edge.told("count " + what, due[what], Doors::busy, d -> d.count(asked));
        }
        SumDoor d = Doors.eight();
        Check.setAll(d, 1, 999);
        Edge.due("all CHALK there can be", 9990, d.count(4));
        Check.setAll(d, 1, 0);
        Edge.due("none", 0, d.count(4));
        Edge.due("eight SUMS", 8, d.count(0));
        Edge.due("MINUTE 480", 480, Doors.at(480).count(2));
        Edge.says(41, "BEYOND: another what.");
        for (int what : new int[] {-1, 8, MIN, MAX}) {
            Edge.refused("what " + what, Check.BEYOND, Doors::busy, b -> b.count(what));
        }
    }

    private static void status() {
        Edge.says(42, "which -1: all, 0 to 6: BEYOND to SIZE.");
        SumDoor d = Doors.busy();
        for (int which = -1; which <= 6; which++) {
            Edge.due("none yet " + which, 0, d.status(which));
        }
        Edge.due("BEYOND", -1000001, d.count(8));
        d.wipe();
        for (int i = 0; i < 10; i++) {
            d.feed(0, 4);
        }
        Edge.due("FULL", -1000002, d.feed(0, 4));
        Edge.due("KIND", -1000003, d.as(1, 1));
        Edge.due("NONE", -1000004, d.when(0));
        Edge.due("STATE", -1000005, d.school(0, 1));
        Edge.due("MISSING", -1000006, d.load(3));
        Edge.due("SIZE", -1000007, d.sheet(0, 8, -1));
        for (int which = 0; which <= 6; which++) {
            Edge.due("one each " + which, 1, d.status(which));
        }
        Edge.due("all", 7, d.status(-1));
        Edge.says(42, "(undo() takes none back)");
        d.undo();
        Edge.due("all yet", 7, d.status(-1));
        d.image();
        d.count(-1);
        d.undo();
        Edge.due("nor those since the image", 8, d.status(-1));
        Edge.says(42, "BEYOND (counted from then on): another one.");
        for (int which : new int[] {-2, 7, MIN, MAX}) {
            Edge.refused("which " + which, Check.BEYOND, Doors::busy, b -> b.status(which));
        }
        SumDoor e = new SumDoor();
        Edge.due("another one", Check.BEYOND, e.status(7));
        Edge.due("counted from then on", 1, e.status(0));
        Edge.due("in all, too", 1, e.status(-1));
        Edge.due("and no more by being asked", 1, e.status(-1));
    }
}

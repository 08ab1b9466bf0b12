/** Promises 31 to 37: SPOTS and SHEETS. */
public final class SheetsTest {
    public static void main(String[] args) {
        hold();
        as();
        sheet();
        write();
        copy();
        load();
        judge();
        Check.finish();
    }

    private static void hold() {
        SumDoor d = new SumDoor();
        Check.due("31: no sum", Check.BEYOND, d.hold(0, 0));
        Check.due("31: nothing", 1, d.hold(0, -1));
        Check.sumFrom(d, "x=1", 0, 1);
        Check.due("31: holds", 1, d.hold(9, 0));
        Check.due("31: it does", 0, d.as(9, 0));
        Check.due("31: others do not", Check.MISSING, d.as(8, 0));
        Check.due("31: -2", Check.BEYOND, d.hold(9, -2));
        Check.due("31: sum 1", Check.BEYOND, d.hold(9, 1));
        Check.due("31: spot 10", Check.BEYOND, d.hold(10, 0));
        Check.due("31: spot -1", Check.BEYOND, d.hold(-1, 0));
        Check.due("31: it stays", 0, d.as(9, 0));
        Check.due("31: nothing again", 1, d.hold(9, -1));
        Check.due("31: no more", Check.MISSING, d.as(9, 0));
    }

    private static void as() {
        String[] fits = {"0", "01", "02", "023", "04", "015", "06"};
        for (int kind = 0; kind <= 6; kind++) {
            SumDoor d = new SumDoor();
            Check.sumFrom(d, "x=1", 0, 1);
            Check.sumFrom(d, "x=1", kind, 1);
            d.hold(3, 1);
            for (int as = 0; as <= 6; as++) {
                int want = fits[kind].indexOf('0' + as) >= 0 ? 1 : Check.KIND;
                Check.due("32: kind " + kind + " as " + as, want, d.as(3, as));
            }
            Check.due("32: kind 7", Check.BEYOND, d.as(3, 7));
            Check.due("32: kind -1", Check.BEYOND, d.as(3, -1));
            Check.due("32: spot 10", Check.BEYOND, d.as(10, 0));
            Check.due("32: spot -1", Check.BEYOND, d.as(-1, 0));
            Check.due("32: MISSING", Check.MISSING, d.as(4, kind));
            Check.due("32: BEYOND ahead of MISSING", Check.BEYOND, d.as(4, 7));
            d.change(1, 0, 3);
            Check.due("32: as it is now", 1, d.as(3, 2));
        }
    }

    private static void sheet() {
        SumDoor d = new SumDoor();
        Check.due("33: 8", 40, d.sheet(0, 8, 40));
        Check.due("33: 16", 1, d.sheet(3, 16, 1));
        Check.due("33: 32, none", 0, d.sheet(1, 32, 0));
        Check.due("33: it is there", 0, d.load(1));
        Check.due("33: bits 0", 0, d.sheet(1, 0, 7));
        Check.due("33: it is MISSING", Check.MISSING, d.load(1));
        d.write(0, 0, 5);
        Check.due("33: all 0 again", 3, d.sheet(0, 8, 3));
        Check.due("33: so it is", 0, d.load(0));
        Check.sumFrom(d, "x=0", 0, 1);
        d.sheet(0, 8, 1);
        Check.due("33: 0 it is", 0, d.judge(0, 0));
        d.write(0, 0, 5);
        int[][] due = {{-1, 8, 1, Check.BEYOND}, {4, 8, 1, Check.BEYOND}, {0, 1, 1, Check.BEYOND},
            {0, 64, 1, Check.BEYOND}, {0, -8, 1, Check.BEYOND}, {0, 24, 1, Check.BEYOND}, {0, 9, -1, Check.BEYOND},
            {4, 8, -1, Check.BEYOND}, {0, 8, -1, Check.SIZE}, {0, 0, -1, Check.SIZE},
            {0, 32, Integer.MIN_VALUE, Check.SIZE}, {0, 8, 41, Check.BEYOND}, {0, 0, 41, Check.BEYOND},
            {0, 16, Integer.MAX_VALUE, Check.BEYOND}};
        for (int[] c : due) {
            Check.due("33: " + c[0] + " " + c[1] + " " + c[2], c[3], d.sheet(c[0], c[1], c[2]));
        }
        Check.due("33: findings change nothing", 1, d.load(0));
        Check.due("33: SIZE is counted", 3, d.status(6));
    }

    private static void write() {
        SumDoor d = new SumDoor();
        Check.due("34: sheet -1", Check.BEYOND, d.write(-1, 0, 0));
        Check.due("34: sheet 4", Check.BEYOND, d.write(4, 0, 0));
        Check.due("34: MISSING", Check.MISSING, d.write(0, 0, 0));
        Check.due("34: MISSING ahead of BEYOND", Check.MISSING, d.write(0, -1, 0));
        d.sheet(0, 8, 2);
        Check.due("34: written", 1, d.write(0, 1, 3));
        Check.due("34: i 2", Check.BEYOND, d.write(0, 2, 0));
        Check.due("34: i -1", Check.BEYOND, d.write(0, -1, 0));
        Check.due("34: the first is 0 yet", 0, d.load(0));
        d.write(0, 0, 0x7fffff04);
        Check.due("34: the lowest 8 bits", 2, d.load(0));
        Check.due("34: they are", 4, d.of(0, 0));
        Check.due("34: the next", 3, d.of(1, 0));
        d.sheet(0, 16, 1);
        d.write(0, 0, 0x7fff0006);
        Check.due("34: the lowest 16 bits", 1, d.load(0));
        Check.due("34: they are", 6, d.of(0, 0));
        d.write(0, 0, 0x0106);
        Check.due("34: more than 8 bits", 0, d.load(0));
        d.sheet(0, 32, 1);
        d.write(0, 0, 0x10006);
        Check.due("34: more than 16 bits", 0, d.load(0));
        d.write(0, 0, 6);
        Check.due("34: all 32 bits", 1, d.load(0));
    }

    /** Sheets 0 and 1 of 8 bits, 0 with 1 to 6, 1 with 9 9 9 9; 2 of 16 bits. */
    private static SumDoor twoSheets() {
        SumDoor d = new SumDoor();
        d.sheet(0, 8, 6);
        d.sheet(1, 8, 4);
        d.sheet(2, 16, 6);
        for (int i = 0; i < 6; i++) {
            d.write(0, i, i + 1);
            d.write(1, i, 9);
        }
        return d;
    }

    private static void skills(String what, SumDoor d, int... want) {
        for (int p = 0; p < want.length; p++) {
            Check.due(what + ", number " + p, want[p], d.of(p, 0));
        }
    }

    private static void copy() {
        SumDoor d = twoSheets();
        Check.due("35: two", 2, d.copy(0, 3, 1, 1, 2));
        d.load(1);
        skills("35: two", d, 9, 4, 5, 9);
        Check.due("35: upwards in one", 4, d.copy(0, 0, 0, 2, 4));
        d.load(0);
        skills("35: upwards in one", d, 1, 2, 1, 2, 3, 4);
        SumDoor e = twoSheets();
        Check.due("35: downwards in one", 4, e.copy(0, 2, 0, 0, 4));
        e.load(0);
        skills("35: downwards in one", e, 3, 4, 5, 6, 5, 6);
        int[][] due = {{-1, 0, 1, 0, 1, Check.BEYOND}, {4, 0, 1, 0, 1, Check.BEYOND}, {0, 0, -1, 0, 1, Check.BEYOND},
            {0, 0, 4, 0, 1, Check.BEYOND}, {3, 0, 4, 0, 1, Check.BEYOND}, {4, 0, 3, 0, 1, Check.BEYOND},
            {3, 0, 1, 0, 1, Check.MISSING}, {0, 0, 3, 0, 1, Check.MISSING}, {3, -1, 3, 0, 1, Check.MISSING},
            {0, 0, 2, 0, 1, Check.KIND}, {2, 0, 0, 0, 1, Check.KIND}, {2, -1, 0, 0, 1, Check.KIND},
            {0, 0, 1, 0, 5, Check.BEYOND}, {0, 3, 1, 0, 4, Check.BEYOND}, {0, 0, 1, 1, 4, Check.BEYOND},
            {0, -1, 1, 0, 1, Check.BEYOND}, {0, 0, 1, -1, 1, Check.BEYOND}, {0, 0, 1, 0, -1, Check.BEYOND},
            {0, 6, 1, 4, 0, 0}, {0, 7, 1, 0, 0, Check.BEYOND}, {0, 0, 1, 5, 0, Check.BEYOND}, {0, 0, 1, 0, 0, 0},
            {0, 1, 1, 0, Integer.MAX_VALUE, Check.BEYOND}, {0, Integer.MAX_VALUE, 1, 0, 1, Check.BEYOND},
            {0, 0, 1, Integer.MAX_VALUE, Integer.MAX_VALUE, Check.BEYOND},
            {0, Integer.MIN_VALUE, 1, 0, Integer.MIN_VALUE, Check.BEYOND}, {0, 2, 1, 0, 4, 4}};
        for (int[] c : due) {
            Check.due("35: " + java.util.Arrays.toString(c), c[5], d.copy(c[0], c[1], c[2], c[3], c[4]));
        }
    }

    private static void load() {
        SumDoor d = new SumDoor();
        Check.due("36: sheet -1", Check.BEYOND, d.load(-1));
        Check.due("36: sheet 4", Check.BEYOND, d.load(4));
        Check.due("36: MISSING", Check.MISSING, d.load(3));
        d.sheet(3, 8, 12);
        for (int i = 0; i < 12; i++) {
            d.write(3, i, 1 + i % 9);
        }
        Check.due("36: ten PRISONERS", 10, d.load(3));
        skills("36: all", d, 1, 2, 3, 4, 5, 6, 7, 8, 9, 1);
        d.write(3, 0, 7);
        d.write(3, 1, 10);
        Check.due("36: 10 ends it", 1, d.load(3));
        skills("36: one", d, 7, 2);
        d.write(3, 1, 0);
        Check.due("36: 0 ends it", 1, d.load(3));
        d.write(3, 1, -1);
        Check.due("36: -1 ends it", 1, d.load(3));
        d.sheet(3, 32, 2);
        d.write(3, 0, 8);
        d.write(3, 1, 9);
        Check.due("36: the sheet's end", 2, d.load(3));
        skills("36: two", d, 8, 9, 3);
        d.sheet(3, 32, 0);
        Check.due("36: an empty sheet", 0, d.load(3));
    }

    private static void judge() {
        SumDoor d = new SumDoor();
        Check.due("37: sheet -1", Check.BEYOND, d.judge(-1, 0));
        Check.due("37: sheet 4", Check.BEYOND, d.judge(4, 0));
        Check.due("37: MISSING ahead of no SUM", Check.MISSING, d.judge(0, 0));
        d.sheet(0, 8, 3);
        Check.due("37: no SUM", Check.BEYOND, d.judge(0, 0));
        Check.due("37: SUM -1", Check.BEYOND, d.judge(0, -1));
        Check.sumFrom(d, "x=41", 2, 40);
        Check.due("37: 0 is not 1", 1, d.judge(0, 0));
        d.write(0, 0, 1);
        Check.due("37: one is right", 2, d.judge(0, 0));
        d.write(0, 2, 81);
        Check.due("37: from the first on", 2, d.judge(0, 0));
        d.write(0, 1, 41);
        Check.due("37: all", 0, d.judge(0, 0));
        d.write(0, 0, 0x101);
        Check.due("37: all, by the lowest bits", 0, d.judge(0, 0));
        d.sheet(1, 8, 2);
        d.copy(0, 0, 1, 0, 2);
        Check.due("37: one lacks", 3, d.judge(1, 0));
        d.sheet(1, 8, 4);
        d.copy(0, 0, 1, 0, 3);
        Check.due("37: one is too many", 4, d.judge(1, 0));
        d.sheet(1, 8, 0);
        Check.due("37: nothing is right", 1, d.judge(1, 0));
        Check.sumFrom(d, "x=100", 0, 40);
        Check.due("37: nothing, and none SOLVES", 0, d.judge(1, 1));
        Check.due("37: numbers, and none SOLVES", 1, d.judge(0, 1));
        Check.sumFrom(d, "x=40", 1, 40);
        d.sheet(2, 16, 40);
        for (int i = 0; i < 40; i++) {
            d.write(2, i, i);
        }
        Check.due("37: forty", 0, d.judge(2, 2));
        d.write(2, 39, -1);
        Check.due("37: the last is wrong", 40, d.judge(2, 2));
        d.change(2, 0, 4);
        d.write(2, 39, 39);
        Check.due("37: more than a sheet has", 41, d.judge(2, 2));
    }
}

/** Promises 23 to 30: which SUM lets out whom, what would be needed, z. */
public final class ChoosingTest {
    public static void main(String[] args) {
        lets();
        choose();
        wrongs();
        fewest();
        skillFor();
        richFor();
        could();
        seed();
        Check.finish();
    }

    /** PRISONER 0 alone has CHALK; 0 is solved behind 1 MINUTE, 3 behind 3, 9 behind 7. */
    private static SumDoor threeSums() {
        SumDoor d = new SumDoor();
        Check.sumFrom(d, "x=0", 0, 1);
        Check.sumFrom(d, "x=3", 0, 1);
        Check.sumFrom(d, "x=9", 0, 1);
        for (int p = 1; p < 10; p++) {
            d.prisoner(p, 1, 0);
        }
        return d;
    }

    private static void lets() {
        SumDoor d = threeSums();
        d.set(2);
        d.minutes(6);
        int[][] due = {{0, 1, 1}, {1, 2, 0}, {1, 3, 1}, {2, 6, 0}, {2, 7, 1}, {2, 200, 1}};
        for (int[] c : due) {
            Check.due("23: sum " + c[0] + " by " + c[1], c[2], d.lets(c[0], c[1]));
        }
        Check.due("23: MINUTE stays", 6, d.count(2));
        Check.due("23: THE SUM stays", 2, d.count(1));
        Check.due("23: NUMBER stays", 9, d.of(0, 5));
        Check.due("23: CHALK stays", 44, d.of(0, 1));
        d.prisoner(0, 1, 2);
        Check.due("23: CHALK as it is now", 0, d.lets(1, 200));
        d.prisoner(0, 1, 50);
        d.rich(0);
        Check.due("23: RICH as it is now: 1 reads lips", 2, d.lets(1, 200));
        int[][] bad = {{-1, 1}, {3, 1}, {0, 0}, {0, 201}, {0, -1}};
        for (int[] b : bad) {
            Check.due("23: BEYOND", Check.BEYOND, d.lets(b[0], b[1]));
        }
    }

    private static void choose() {
        Check.due("24: no SUMS", Check.NONE, new SumDoor().choose(1));
        Check.due("24: BEYOND ahead of NONE", Check.BEYOND, new SumDoor().choose(201));
        SumDoor d = threeSums();
        Check.due("24: all MAY, one goes", 0, d.choose(1));
        d.prisoner(0, 4, 0);
        Check.due("24: he may not; 1 keeps him in", 1, d.choose(1));
        Check.due("24: 2 keeps him in", 2, d.choose(6));
        Check.due("24: all let him go, the least", 0, d.choose(7));
        Check.due("24: 0", Check.BEYOND, d.choose(0));
        Check.due("24: 201", Check.BEYOND, d.choose(201));
        Check.due("24: 200", 0, d.choose(200));
        Check.due("24: nothing changes", -1, d.count(1));
    }

    private static void wrongs() {
        SumDoor d = threeSums();
        Check.due("25: nine wrongly in", 9, d.wrongs(0, 1));
        Check.due("25: ten wrongly in", 10, d.wrongs(1, 1));
        d.prisoner(0, 4, 0);
        Check.due("25: nine in, one out", 10, d.wrongs(0, 1));
        Check.setAll(d, 4, 0);
        Check.due("25: one out", 1, d.wrongs(0, 200));
        Check.due("25: none", 0, d.wrongs(2, 6));
        int[][] bad = {{-1, 1}, {3, 1}, {0, 0}, {0, 201}};
        for (int[] b : bad) {
            Check.due("25: BEYOND", Check.BEYOND, d.wrongs(b[0], b[1]));
        }
    }

    /**
     * 17 lets out 0 alone (18 MINUTES, CHALK 32 then), 0 lets out 5 alone (0 has his ANSWER with CHALK 49
     * and is too rich to go), 99 lets out nobody.
     */
    private static SumDoor covers(String... texts) {
        SumDoor d = new SumDoor();
        for (String text : texts) {
            Check.sumFrom(d, text, 0, 1);
        }
        Check.setAll(d, 1, 0);
        Check.setAll(d, 2, 99);
        Check.setAll(d, 3, 15);
        Check.setAll(d, 4, 0);
        d.prisoner(0, 1, 50);
        d.prisoner(0, 3, 0);
        d.prisoner(5, 0, 1);
        d.prisoner(5, 1, 10);
        d.prisoner(5, 3, 5);
        d.rich(40);
        return d;
    }

    private static void fewest() {
        SumDoor d = covers("x=99", "x=17", "x=0", "x=17", "x=0");
        Check.due("26: 17 lets out 0", 1, d.lets(1, 50));
        Check.due("26: 0 lets out 5", 32, d.lets(2, 50));
        Check.due("26: nobody MAY: none of them", 0, d.fewest(50));
        d.prisoner(0, 4, 1);
        Check.due("26: 0 MAY: the least", 2, d.fewest(50));
        d.prisoner(5, 4, 1);
        Check.due("26: both MAY: two, the least", 6, d.fewest(50));
        Check.due("26: too few MINUTES", Check.NONE, d.fewest(17));
        Check.due("26: just enough", 6, d.fewest(18));
        d.prisoner(0, 4, 0);
        Check.due("26: 5 MAY, 0 may not", 4, d.fewest(100));
        d.prisoner(6, 4, 1);
        Check.due("26: 6 never goes", Check.NONE, d.fewest(100));
        Check.due("26: 0", Check.BEYOND, d.fewest(0));
        Check.due("26: 101", Check.BEYOND, d.fewest(101));
        SumDoor one = covers("x=17", "x=0", "x=13");
        one.prisoner(0, 4, 1);
        one.prisoner(5, 4, 1);
        one.prisoner(5, 1, 42);
        Check.due("26: 0 lets out 5 yet", 32, one.lets(1, 50));
        Check.due("26: 13 lets out both", 33, one.lets(2, 50));
        Check.due("26: one is fewer than the first two", 4, one.fewest(50));
        SumDoor first = covers("x=17", "x=99", "x=0");
        first.prisoner(0, 4, 1);
        first.prisoner(5, 4, 1);
        Check.due("26: the first and the last", 5, first.fewest(50));
        SumDoor none = new SumDoor();
        Check.due("26: no SUMS", Check.NONE, none.fewest(1));
        Check.setAll(none, 4, 0);
        Check.due("26: no SUMS, nobody MAY", 0, none.fewest(1));
        Check.due("26: BEYOND yet", Check.BEYOND, none.fewest(101));
    }

    private static void skillFor() {
        SumDoor d = threeSums();
        int[][] due = {{1, 8}, {2, 4}, {3, 3}, {4, 2}, {7, 2}, {8, 1}, {200, 1}};
        for (int[] c : due) {
            Check.due("27: by " + c[0], c[1], d.skillFor(0, 1, c[0]));
        }
        Check.due("27: SKILL stays", 3, d.of(0, 0));
        Check.due("27: not even by 9", Check.NONE, d.skillFor(0, 2, 2));
        Check.due("27: by 9", 7, d.skillFor(0, 2, 3));
        Check.due("27: no CHALK", Check.NONE, d.skillFor(1, 0, 200));
        d.prisoner(0, 2, 0);
        Check.due("27: he buys", 1, d.skillFor(1, 0, 1));
        Check.sumFrom(d, "x=02", 0, 1);
        Check.due("27: just by 9", 9, d.skillFor(0, 3, 1));
        int[][] bad = {{-1, 0, 1}, {10, 0, 1}, {0, -1, 1}, {0, 4, 1}, {0, 0, 0}, {0, 0, 201}};
        for (int[] b : bad) {
            Check.due("27: BEYOND", Check.BEYOND, d.skillFor(b[0], b[1], b[2]));
        }
    }

    private static void richFor() {
        SumDoor d = threeSums();
        Check.due("28: THE SUM is none", Check.STATE, d.richFor(1));
        Check.due("28: BEYOND ahead of STATE", Check.BEYOND, d.richFor(101));
        d.set(0);
        Check.due("28: all MAY", 999, d.richFor(100));
        d.prisoner(0, 4, 0);
        int[][] due = {{999, 900}, {901, 800}, {902, 900}, {550, 500}, {501, 400}, {502, 500}, {50, 0}, {2, 0}};
        for (int[] c : due) {
            d.prisoner(0, 1, c[0]);
            d.prisoner(1, 3, 19);
            Check.due("28: CHALK " + c[0], c[1], d.richFor(1));
        }
        d.prisoner(0, 1, 1);
        Check.due("28: no CHALK then", Check.NONE, d.richFor(1));
        Check.due("28: RICH stays", 999, d.count(3));
        d.prisoner(0, 1, 50);
        d.prisoner(1, 3, 1);
        Check.due("28: 1 MAY read lips", 0, d.richFor(2));
        d.prisoner(1, 4, 0);
        Check.due("28: 1 may not, and reads lips, unless 0 goes", Check.NONE, d.richFor(2));
        Check.due("28: 1 had no time to read", 0, d.richFor(1));
        Check.due("28: 0", Check.BEYOND, d.richFor(0));
        d.prisoner(0, 4, 1);
        Check.due("28: 0 MAY, so 1 reads nothing", 999, d.richFor(100));
    }

    private static void could() {
        SumDoor d = new SumDoor();
        Check.due("29: no SUMS", 0, d.could(0, 480));
        Check.sumFrom(d, "x=3", 0, 1);
        Check.sumFrom(d, "x=100", 0, 1);
        Check.sumFrom(d, "x=99", 0, 1);
        Check.due("29: by 2", 0, d.could(0, 2));
        Check.due("29: by 3", 1, d.could(0, 3));
        Check.due("29: by 480", 1, d.could(0, 480));
        d.prisoner(0, 1, 99);
        Check.due("29: one CHALK too few", 1, d.could(0, 480));
        d.prisoner(0, 1, 100);
        Check.due("29: CHALK enough", 5, d.could(0, 480));
        Check.due("29: MINUTES enough", 5, d.could(0, 100));
        Check.due("29: a MINUTE too few", 1, d.could(0, 99));
        d.prisoner(1, 1, 0);
        Check.due("29: no CHALK", 0, d.could(1, 480));
        d.prisoner(0, 2, 0);
        Check.due("29: neither (b) nor (c)", 0, d.could(1, 480));
        d.rich(0);
        Check.due("29: nor the door", 5, d.could(0, 480));
        d.set(0);
        d.minutes(1);
        Check.due("29: CHALK as it is now", 1, d.could(0, 480));
        Check.sumFrom(d, "x=0", 0, 1);
        Check.due("29: ANSWER 0, behind 1", 8, d.could(0, 1));
        Check.due("29: NUMBER stays", 1, d.of(0, 5));
        int[][] bad = {{-1, 1}, {10, 1}, {0, 0}, {0, 481}};
        for (int[] b : bad) {
            Check.due("29: BEYOND", Check.BEYOND, d.could(b[0], b[1]));
        }
    }

    private static void seed() {
        SumDoor d = new SumDoor();
        Check.due("30: at first", 1, d.seed(Check.BEYOND));
        Check.due("30: any int", Check.BEYOND, d.count(6));
        Check.due("30: it was", Check.BEYOND, d.seed(Integer.MIN_VALUE));
        Check.due("30: least", Integer.MIN_VALUE, d.seed(0));
        Check.due("30: no finding", 0, d.status(-1));
        d.alms(1);
        Check.due("30: draws go on from it", 12345, d.count(6));
    }
}

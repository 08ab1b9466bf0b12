import java.util.function.IntFunction;
import java.util.function.ToIntFunction;

/** The boundaries of promises 23 to 30: what a NEW DAY with a SUM would bring, and z. */
public final class ChoosingEdgesTest {
    private static final int MIN = Integer.MIN_VALUE;
    private static final int MAX = Integer.MAX_VALUE;

    public static void main(String[] args) {
        lets();
        choose();
        wrongs();
        fewest();
        fewestOfSeveral();
        fewestOfEight();
        skillFor();
        richFor();
        richForWithState();
        could();
        seed();
        Edge.finish(23, 30);
    }

    private static void refusedMinutes(int most, IntFunction<ToIntFunction<SumDoor>> call) {
        for (int n : new int[] {0, most + 1, -1, MIN, MAX}) {
            Edge.refused("n " + n, Check.BEYOND, Doors::busy, call.apply(n));
        }
    }

    private static void refusedSums(IntFunction<ToIntFunction<SumDoor>> call) {
        for (int sum : new int[] {-1, 3, 8, MIN, MAX}) {
            Edge.refused("SUM " + sum, Check.BEYOND, Doors::busy, call.apply(sum));
        }
        Edge.refused("SUM 0, there is none", Check.BEYOND, SumDoor::new, call.apply(0));
    }

    private static void refusedPrisoners(IntFunction<ToIntFunction<SumDoor>> call) {
        for (int p : new int[] {-1, 10, MIN, MAX}) {
            Edge.refused("PRISONER " + p, Check.BEYOND, Doors::busy, call.apply(p));
        }
    }

    /** Eight SUMS that let all go behind 11 to 18 MINUTES; MAY of all as told. */
    private static SumDoor eight(int may) {
        SumDoor d = Doors.eight();
        Check.setAll(d, 4, may);
        return d;
    }

    private static SumDoor late(SumDoor d) {
        for (int i = 0; i < 4; i++) {
            d.minutes(100);
        }
        d.minutes(80);
        return d;
    }

    private static void lets() {
        Edge.says(23, "behind n MINUTES (1 to 200) of a NEW DAY with a SUM");
        Edge.told("1", 1, () -> Doors.worker("x=0", 2, 50), d -> d.lets(0, 1));
        Edge.told("199", 0, () -> Doors.worker("x=049", 1, 999), d -> d.lets(0, 199));
        Edge.told("200", 1, () -> Doors.worker("x=049", 1, 999), d -> d.lets(0, 200));
        Edge.told("200 at MINUTE 480", 1, () -> late(Doors.worker("x=049", 1, 999)), d -> d.lets(0, 200));
        Edge.told("199 at MINUTE 480", 0, () -> late(Doors.worker("x=049", 1, 999)), d -> d.lets(0, 199));
        Edge.told("nobody is OUT as it begins", 0, Doors::busy, d -> d.lets(0, 1));
        Edge.told("all, by the last of eight", 1023, Doors::eight, d -> d.lets(7, 18));
        Edge.told("nobody", 0, Doors::eight, d -> d.lets(7, 17));
        Edge.says(23, "BEYOND.");
        refusedMinutes(200, n -> d -> d.lets(0, n));
        refusedSums(sum -> d -> d.lets(sum, 1));
    }

    private static void choose() {
        Edge.says(24, "fewest PRISONERS are wrongly in or OUT");
        int[][] due = {{1, 1, 0}, {1, 10, 0}, {1, 11, 0}, {1, 18, 0}, {1, 200, 0}, {0, 1, 0}, {0, 10, 0}, {0, 11, 1},
            {0, 17, 7}, {0, 18, 0}, {0, 200, 0}};
        for (int[] c : due) {
            Edge.told("MAY " + c[0] + " by " + c[1], c[2], () -> eight(c[0]), d -> d.choose(c[1]));
        }
        Edge.told("in or OUT", 3, ChoosingEdgesTest::twoMayNot, d -> d.choose(5));
        Edge.says(0, "of several that would do the least number counts, where nothing else is told");
        Edge.told("one wrong by 1 and by 3, two by the others", 1, ChoosingEdgesTest::twoWays, d -> d.choose(5));
        Edge.says(24, "BEYOND.");
        refusedMinutes(200, n -> d -> d.choose(n));
        Edge.says(24, "NONE: there are no SUMS.");
        Edge.refused("1", Check.NONE, SumDoor::new, d -> d.choose(1));
        Edge.refused("200", Check.NONE, SumDoor::new, d -> d.choose(200));
        Edge.refused("n is asked first", Check.BEYOND, SumDoor::new, d -> d.choose(0));
        Edge.refused("n is asked first, above", Check.BEYOND, SumDoor::new, d -> d.choose(201));
    }

    private static void wrongs() {
        Edge.says(25, "How many are wrong so (n likewise) with a SUM.");
        int[][] due = {{1, 0, 10, 10}, {1, 0, 11, 0}, {0, 0, 10, 0}, {0, 0, 11, 10}, {1, 7, 17, 10}, {1, 7, 200, 0},
            {0, 7, 1, 0}};
        for (int[] c : due) {
            String what = "MAY " + c[0] + ", SUM " + c[1] + " by " + c[2];
            Edge.told(what, c[3], () -> eight(c[0]), d -> d.wrongs(c[1], c[2]));
        }
        int[] wrong = {3, 2, 1, 0};
        for (int sum = 0; sum <= 3; sum++) {
            int asked = sum;
            Edge.told("SUM " + sum, wrong[sum], ChoosingEdgesTest::twoMayNot, d -> d.wrongs(asked, 5));
        }
        Edge.told("busy, nobody goes, 6 may not", 9, Doors::busy, d -> d.wrongs(0, 1));
        Edge.says(25, "BEYOND.");
        refusedMinutes(200, n -> d -> d.wrongs(0, n));
        refusedSums(sum -> d -> d.wrongs(sum, 1));
    }

    private static SumDoor nobodyMay() {
        SumDoor d = new SumDoor();
        Check.setAll(d, 4, 0);
        return d;
    }

    private static void fewest() {
        Edge.says(26, "(n MINUTES, 1 to 100, of a NEW DAY each; none of them, if nobody MAY)");
        Edge.told("nobody MAY, all could go", 0, () -> eight(0), d -> d.fewest(100));
        Edge.told("nobody MAY, nobody goes by any", 0, () -> eight(0), d -> d.fewest(10));
        Edge.told("nobody MAY, there are no SUMS", 0, ChoosingEdgesTest::nobodyMay, d -> d.fewest(1));
        Edge.told("100", 1, () -> Doors.one("x=99", 4, 1), d -> d.fewest(100));
        Edge.told("1", 1, () -> Doors.one("x=99", 4, 1), d -> d.fewest(1));
        Edge.told("all by one", 1, () -> eight(1), d -> d.fewest(11));
        Edge.says(26, "BEYOND.");
        refusedMinutes(100, n -> d -> d.fewest(n));
        Edge.refused("n is asked first", Check.BEYOND, SumDoor::new, d -> d.fewest(101));
        Edge.refused("n is asked first, below", Check.BEYOND, ChoosingEdgesTest::nobodyMay, d -> d.fewest(0));
        Edge.says(26, "NONE.");
        Edge.refused("there are no SUMS", Check.NONE, SumDoor::new, d -> d.fewest(1));
        Edge.refused("a MINUTE too few", Check.NONE, () -> eight(1), d -> d.fewest(10));
        Edge.refused("6 may not, but goes by each", Check.NONE, ChoosingEdgesTest::allButSix, d -> d.fewest(100));
    }

    private static SumDoor allButSix() {
        SumDoor d = eight(1);
        d.prisoner(6, 4, 0);
        return d;
    }

    /**
     * SUMS 0 to 3 are solved behind 5, 4, 2 and 3 MINUTES. Who then has 0 or 1 CHALK goes: 2 by SUM 0, 1 and 2 by
     * SUM 1, 0 by SUM 2, 0 and 1 by SUM 3. So 0 and 3 do, or 1 and 2, but neither 0 and 1, nor 0 and 2.
     */
    private static SumDoor twoWays() {
        SumDoor d = Doors.poor("x=4");
        Check.sumFrom(d, "x=3", 0, 10);
        Check.sumFrom(d, "x=1", 0, 10);
        Check.sumFrom(d, "x=2", 0, 10);
        Check.setAll(d, 4, 0);
        d.rich(1);
        for (int p = 0; p <= 2; p++) {
            d.prisoner(p, 0, 2);
            d.prisoner(p, 1, 3 + p);
            d.prisoner(p, 3, 5 * p);
            d.prisoner(p, 4, 1);
        }
        return d;
    }

    /** As twoWays(), but PRISONER 2 may not go. */
    private static SumDoor twoMayNot() {
        SumDoor d = twoWays();
        d.prisoner(2, 4, 0);
        return d;
    }

    private static void fewestOfSeveral() {
        Edge.says(26, "of several the least");
        int[] lets = {4, 6, 1, 3};
        for (int sum = 0; sum <= 3; sum++) {
            Edge.due("SUM " + sum, lets[sum], twoWays().lets(sum, 5));
        }
        Edge.told("1 and 2, not 0 and 3", 6, ChoosingEdgesTest::twoWays, d -> d.fewest(5));
        Edge.refused("by 3 MINUTES", Check.NONE, ChoosingEdgesTest::twoWays, d -> d.fewest(3));
        SumDoor less = twoWays();
        less.prisoner(1, 4, 0);
        Edge.says(26, "nobody else by any");
        Edge.due("1 may not: 0 and 2", 5, less.fewest(100));
        Edge.says(26, "The fewest SUMS");
        Edge.told("2 may not: 3 alone", 8, ChoosingEdgesTest::twoMayNot, d -> d.fewest(5));
        SumDoor idle = twoMayNot();
        idle.prisoner(2, 1, 0);
        Edge.due("1 and 2 would do, but 3 alone does", 8, idle.fewest(5));
        SumDoor undone = new SumDoor();
        undone.image();
        Check.sumFrom(undone, "x=0", 0, 10);
        Edge.due("a SUM that lets all go", 1, undone.fewest(1));
        undone.undo();
        Edge.due("no more of it", Check.NONE, undone.fewest(1));
    }

    /** SUM s is solved behind s + 1 MINUTES, and lets out PRISONER s alone, who has no CHALK left then. */
    private static SumDoor eachItsOwn() {
        SumDoor d = Doors.poor("x=0");
        for (int s = 1; s <= 7; s++) {
            Check.sumFrom(d, "x=" + s, 0, 10);
        }
        d.rich(0);
        for (int p = 0; p <= 7; p++) {
            d.prisoner(p, 0, 2);
            d.prisoner(p, 1, p + 1);
        }
        d.prisoner(8, 4, 0);
        d.prisoner(9, 4, 0);
        return d;
    }

    private static void fewestOfEight() {
        Edge.says(26, "The fewest SUMS, as a set, such that each PRISONER who MAY is OUT by one of them");
        Edge.told("all eight", 255, ChoosingEdgesTest::eachItsOwn, d -> d.fewest(8));
        Edge.refused("the eighth is too slow", Check.NONE, ChoosingEdgesTest::eachItsOwn, d -> d.fewest(7));
        SumDoor last = eachItsOwn();
        Check.setAll(last, 4, 0);
        last.prisoner(7, 4, 1);
        Edge.due("the eighth alone", 128, last.fewest(8));
        last.prisoner(9, 4, 1);
        Edge.due("9 never goes", Check.NONE, last.fewest(100));
    }

    private static void skillFor() {
        Edge.says(27, "The least SKILL (1 to 9) with which a PRISONER would be OUT behind n MINUTES (1 to 200)");
        Edge.told("9", 9, () -> Doors.worker("x=02", 3, 50), d -> d.skillFor(0, 0, 1));
        Edge.told("1", 1, () -> Doors.worker("x=02", 9, 50), d -> d.skillFor(0, 0, 9));
        Edge.told("2 by a MINUTE less", 2, () -> Doors.worker("x=02", 9, 50), d -> d.skillFor(0, 0, 8));
        Edge.told("200", 1, () -> Doors.worker("x=049", 3, 200), d -> d.skillFor(0, 0, 200));
        Edge.told("199", 2, () -> Doors.worker("x=049", 3, 200), d -> d.skillFor(0, 0, 199));
        Edge.told("CHALK for 199", 2, () -> Doors.worker("x=049", 3, 199), d -> d.skillFor(0, 0, 200));
        Edge.told("at MINUTE 480", 1, () -> late(Doors.worker("x=049", 3, 999)), d -> d.skillFor(0, 0, 200));
        Edge.told("1, if he buys", 1, ChoosingEdgesTest::free, d -> d.skillFor(1, 0, 1));
        Edge.says(27, "BEYOND.");
        refusedPrisoners(p -> d -> d.skillFor(p, 0, 1));
        refusedSums(sum -> d -> d.skillFor(0, sum, 1));
        refusedMinutes(200, n -> d -> d.skillFor(0, 0, n));
        Edge.says(27, "NONE.");
        Edge.refused("9 is too little", Check.NONE, () -> Doors.worker("x=03", 3, 50), d -> d.skillFor(0, 0, 1));
        Edge.refused("no CHALK", Check.NONE, () -> Doors.worker("x=0", 3, 0), d -> d.skillFor(0, 0, 200));
        Edge.refused("no NUMBER SOLVES it", Check.NONE, () -> Doors.worker("x=100", 3, 999),
                d -> d.skillFor(0, 0, 200));
    }

    /** PRISONER 0, who may not go, solves THE SUM in a MINUTE, and has that CHALK then. */
    private static SumDoor mayNot(int chalk) {
        SumDoor d = Doors.worker("x=0", 2, chalk + 1);
        d.prisoner(0, 4, 0);
        return d;
    }

    private static SumDoor slowMayNot() {
        SumDoor d = Doors.worker("x=99", 3, 999);
        d.prisoner(0, 4, 0);
        return d;
    }

    private static void richFor() {
        Edge.says(28, "(of 0, 100, 200, .. 900, and 999 alone)");
        int[][] due = {{998, 900}, {901, 900}, {900, 800}, {899, 800}, {101, 100}, {100, 0}, {99, 0}, {1, 0}};
        for (int[] c : due) {
            Edge.told("CHALK " + c[0] + " then", c[1], () -> mayNot(c[0]), d -> d.richFor(1));
        }
        for (int hundreds = 1; hundreds <= 9; hundreds++) {
            int chalk = 100 * hundreds + 1;
            Edge.told("CHALK " + chalk + " then", chalk - 1, () -> mayNot(chalk), d -> d.richFor(1));
        }
        Edge.told("all MAY", 999, () -> Doors.worker("x=0", 2, 50), d -> d.richFor(100));
        Edge.says(28, "behind n MINUTES (1 to 100) of a NEW DAY with THE SUM");
        Edge.told("99", 999, ChoosingEdgesTest::slowMayNot, d -> d.richFor(99));
        Edge.told("100", 800, ChoosingEdgesTest::slowMayNot, d -> d.richFor(100));
        Edge.told("at MINUTE 480, CHALK 200 then", 100, () -> late(keptIn(201)), d -> d.richFor(1));
        Edge.says(28, "NONE.");
        Edge.refused("CHALK 0 then", Check.NONE, () -> mayNot(0), d -> d.richFor(1));
    }

    /** As mayNot(), but RICH is 0, so that he keeps that CHALK, and stays in, for all the day. */
    private static SumDoor keptIn(int chalk) {
        SumDoor d = mayNot(chalk);
        d.rich(0);
        return d;
    }

    private static void richForWithState() {
        Edge.says(28, "STATE: THE SUM is none.");
        Edge.refused("no SUMS", Check.STATE, SumDoor::new, d -> d.richFor(1));
        Edge.refused("SUMS, but none is", Check.STATE, Doors::eight, d -> d.richFor(100));
        Edge.says(28, "BEYOND.");
        refusedMinutes(100, n -> d -> d.richFor(n));
        Edge.refused("ahead of STATE", Check.BEYOND, Doors::eight, d -> d.richFor(101));
        Edge.refused("ahead of STATE, below", Check.BEYOND, Doors::eight, d -> d.richFor(0));
    }

    private static void could() {
        Edge.says(29, "behind n MINUTES (1 to 480) of a NEW DAY by (a) alone");
        Edge.told("1", 1, () -> Doors.worker("x=0", 2, 1), d -> d.could(0, 1));
        Edge.told("480", 1, () -> Doors.worker("x+0=95", 1, 480), d -> d.could(0, 480));
        Edge.told("479", 0, () -> Doors.worker("x+0=95", 1, 480), d -> d.could(0, 479));
        Edge.told("at MINUTE 480", 1, () -> late(Doors.worker("x+0=95", 1, 960)), d -> d.could(0, 480));
        Edge.told("all of eight", 255, Doors::eight, d -> d.could(9, 18));
        Edge.told("seven of eight", 127, Doors::eight, d -> d.could(9, 17));
        Edge.told("none of eight", 0, Doors::eight, d -> d.could(0, 10));
        Edge.told("there are no SUMS", 0, SumDoor::new, d -> d.could(0, 480));
        Edge.says(29, "CHALK being as it is as that begins, and going down by (a)");
        Edge.told("479 CHALK", 0, () -> Doors.worker("x+0=95", 1, 479), d -> d.could(0, 480));
        Edge.told("no CHALK", 0, () -> Doors.worker("x=0", 9, 0), d -> d.could(0, 480));
        Edge.told("who could buy for nothing", 0, ChoosingEdgesTest::free, d -> d.could(1, 480));
        Edge.says(29, "BEYOND.");
        refusedPrisoners(p -> d -> d.could(p, 1));
        refusedMinutes(480, n -> d -> d.could(0, n));
    }

    private static SumDoor free() {
        SumDoor d = Doors.worker("x=0", 2, 50);
        d.prisoner(0, 2, 0);
        return d;
    }

    private static void seed() {
        Edge.says(30, "z becomes v: what it was.");
        SumDoor d = new SumDoor();
        int was = 1;
        for (int v : new int[] {0, -1, MIN, MAX, Check.BEYOND, Check.FULL, Check.KIND, Check.NONE, Check.STATE,
            Check.MISSING, Check.SIZE, -1000008, 1}) {
            Edge.due("v " + v, was, d.seed(v));
            Edge.due("z is " + v, v, d.count(6));
            was = v;
        }
        Edge.says(0, "What seed() and count(6) tell, z, and a SIDE may be any int: that is no finding.");
        Edge.due("none was told", 0, d.status(-1));
    }
}

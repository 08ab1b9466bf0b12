import java.util.function.Supplier;

/**
 * Sentences of the promises, for ordinary inputs; the *EdgesTest classes have their edges. What would be is asked of
 * one door, and is lived through by others that were made alike.
 */
public final class SentencesTest {
    private static final int[] MANY = {1, 2, 3, 5, 8, 13, 21, 34, 55, 100};

    public static void main(String[] args) {
        feed();
        sum();
        sumOf();
        of();
        school();
        ahead();
        when();
        lets();
        choose();
        fewest();
        skillFor();
        richFor();
        could();
        as();
        load();
        judge();
        count();
        status();
        Edge.finish(1, 0);
    }

    // ---- doors

    /** Five SUMS of unlike kinds, prisoners of unlike SKILL, CHALK, PRICE and CELL, who partly may not go. */
    private static SumDoor mixed(int turn) {
        SumDoor d = new SumDoor();
        Check.sumFrom(d, "x=6", 0, 10);
        Check.sumFrom(d, "x*x=120", 5, 10);
        Check.sumFrom(d, "x=14", 2, 9);
        Check.sumFrom(d, "x+1=30", 6, 5);
        Check.sumFrom(d, "x=200", 0, 10);
        for (int p = 0; p <= 9; p++) {
            int k = (p + 1) * (turn + 3);
            d.prisoner(p, 0, 1 + k % 7);
            d.prisoner(p, 1, k * 7 % 41);
            d.prisoner(p, 2, 4 + k * 5 % 23);
            d.prisoner(p, 3, k * 3 % 12);
            d.prisoner(p, 4, k / 2 % 2);
        }
        d.rich(18 + turn);
        d.set(turn % 5);
        d.minutes(2);
        return d;
    }

    private static int outBehind(SumDoor d, int sum, int n) {
        d.set(sum);
        d.minutes(n);
        return d.out();
    }

    private static int maySet(SumDoor d) {
        int all = 0;
        for (int p = 0; p <= 9; p++) {
            all |= d.of(p, 4) << p;
        }
        return all;
    }

    // ---- sums

    private static void feed() {
        Edge.says(2, "THE TAPE gets the n lowest bytes of a number behind it, the highest of these first (n 1 to 4): "
                + "how many it has.");
        SumDoor d = new SumDoor();
        Edge.due("x", 1, d.feed(0x11223378, 1));
        Edge.due("=4", 3, d.feed(0xffff3d34, 2));
        Edge.due("+56", 6, d.feed(0x7f2b3536, 3));
        Edge.due("-x*2", 10, d.feed(0x2d782a32, 4));
        Edge.due("a SUM", 0, d.sum(0, 10));
        Edge.due("x", 3, d.side(0, 0, 3));
        Edge.due("4+56-x*2", 54, d.side(0, 1, 3));
    }

    private static void sum() {
        Edge.says(4, "THE TAPE, which is empty then, becomes the TEXT of a new SUM: its number; "
                + "-10 less the FAULT (no finding).");
        SumDoor d = new SumDoor();
        Edge.due("the first", 0, Check.sumFrom(d, "x+3=9", 6, 4));
        Edge.due("THE TAPE is empty", 0, d.count(5));
        Edge.due("at fault", -13, Check.sumFrom(d, "x+3x=9", 6, 4));
        Edge.due("THE TAPE is empty, too", 0, d.count(5));
        Edge.due("no finding", 0, d.status(-1));
        Edge.due("the next", 1, Check.sumFrom(d, "x*2=8", 1, 44));
        Edge.due("the TEXT of the first", 10, d.side(0, 0, 7));
        Edge.due("the TEXT of the next", 14, d.side(1, 0, 7));
    }

    private static void sumOf() {
        Edge.says(5, "Of a SUM: what 0 KIND, 1 m, 2 HARD, 3 how many NUMBERS SOLVE it.");
        int[][] due = {{0, 10, 2, 1}, {5, 10, 9, 89}, {2, 9, 3, 11}, {6, 5, 5, 11}, {0, 10, 4, 0}};
        SumDoor d = mixed(0);
        for (int s = 0; s < due.length; s++) {
            for (int what = 0; what <= 3; what++) {
                Edge.due("what " + what + " of " + s, due[s][what], d.sumOf(s, what));
            }
        }
    }

    // ---- prisoners

    private static void of() {
        Edge.says(13, "Of a PRISONER: what 0 to 4 as told, 5 the NUMBER, 6 ANSWER (-1: none), 7 WORK, 8 1 if OUT, else 0.");
        SumDoor d = Doors.worker("x=1", 3, 60);
        int[] before = {3, 60, 99, 0, 1, 0, -1, 0, 0};
        int[] then = {3, 59, 99, 0, 1, 1, -1, 1, 0};
        int[] last = {3, 58, 99, 0, 1, 1, 1, 2, 1};
        int[][] rows = {before, then, last};
        for (int minute = 0; minute < rows.length; minute++) {
            for (int what = 0; what <= 8; what++) {
                Edge.due("what " + what + " at MINUTE " + minute, rows[minute][what], d.of(0, what));
            }
            d.minutes(1);
        }
    }

    private static void school() {
        Edge.says(17, "A school: of two unlike PRISONERS the one with less SKILL has 1 more, "
                + "the other one 2 less CHALK (0 at least): SKILL of the one told first then.");
        SumDoor d = new SumDoor();
        d.prisoner(4, 0, 2);
        d.prisoner(7, 0, 6);
        Edge.due("who learns is told first", 3, d.school(4, 7));
        Edge.due("who teaches is told first", 6, d.school(7, 4));
        Edge.due("SKILL of who learns", 4, d.of(4, 0));
        Edge.due("CHALK of who learns", 50, d.of(4, 1));
        Edge.due("SKILL of who teaches", 6, d.of(7, 0));
        Edge.due("CHALK of who teaches", 46, d.of(7, 1));
    }

    // ---- minutes

    private static void ahead() {
        Edge.says(21, "what 0 PRISONERS who are OUT then, as a set, 1 those who have an ANSWER, as a set, "
                + "2 CHALK of all together.");
        for (int turn = 0; turn < 12; turn++) {
            SumDoor asked = mixed(turn);
            for (int n : MANY) {
                SumDoor gone = mixed(turn);
                gone.minutes(n);
                int answers = 0;
                for (int p = 0; p <= 9; p++) {
                    answers |= gone.of(p, 6) == -1 ? 0 : 1 << p;
                }
                String what = "door " + turn + ", behind " + n;
                Edge.due(what + ", OUT", gone.out(), asked.ahead(n, 0));
                Edge.due(what + ", ANSWERS", answers, asked.ahead(n, 1));
                Edge.due(what + ", CHALK", gone.count(4), asked.ahead(n, 2));
            }
        }
    }

    private static void when() {
        Edge.says(22, "Behind how many MINUTES (1 to 200) AHEAD a PRISONER is OUT.");
        for (int turn = 0; turn < 12; turn++) {
            SumDoor asked = mixed(turn);
            for (int p = 0; p <= 9; p++) {
                SumDoor gone = mixed(turn);
                int due = gone.of(p, 8) == 1 ? Check.STATE : Check.NONE;
                for (int n = 1; n <= 200 && due == Check.NONE; n++) {
                    gone.minutes(1);
                    due = gone.of(p, 8) == 1 ? n : due;
                }
                Edge.due("door " + turn + ", PRISONER " + p, due, asked.when(p));
            }
        }
    }

    // ---- choosing

    private static void lets() {
        Edge.says(23, "PRISONERS who would be OUT behind n MINUTES (1 to 200) of a NEW DAY with a SUM, as a set.");
        for (int turn = 0; turn < 12; turn++) {
            SumDoor asked = mixed(turn);
            for (int sum = 0; sum < 5; sum++) {
                for (int n : MANY) {
                    int due = outBehind(mixed(turn), sum, n);
                    Edge.due("door " + turn + ", SUM " + sum + " behind " + n, due, asked.lets(sum, n));
                }
            }
        }
    }

    private static void choose() {
        Edge.says(24, "The SUM by which, behind n MINUTES (1 to 200) of a NEW DAY, "
                + "fewest PRISONERS are wrongly in or OUT (MAY tells who should be OUT).");
        for (int turn = 0; turn < 12; turn++) {
            SumDoor asked = mixed(turn);
            for (int n : MANY) {
                int best = 0;
                int fewest = 11;
                for (int sum = 0; sum < 5; sum++) {
                    int wrongs = Integer.bitCount(outBehind(mixed(turn), sum, n) ^ maySet(asked));
                    Edge.due("wrongs of " + sum + " behind " + n, wrongs, asked.wrongs(sum, n));
                    best = wrongs < fewest ? sum : best;
                    fewest = Math.min(wrongs, fewest);
                }
                Edge.due("door " + turn + ", behind " + n, best, asked.choose(n));
            }
        }
    }

    /** MAY becomes what some of the SUMS let out within n MINUTES. */
    private static SumDoor mayBy(int turn, int sums, int n) {
        SumDoor d = mixed(turn);
        int all = 0;
        for (int sum = 0; sum < 5; sum++) {
            all |= (sums >> sum & 1) == 1 ? d.lets(sum, n) : 0;
        }
        for (int p = 0; p <= 9; p++) {
            d.prisoner(p, 4, all >> p & 1);
        }
        return d;
    }

    private static int fewestDue(Supplier<SumDoor> make, int n) {
        int best = -1;
        for (int sums = 0; sums < 32; sums++) {
            int all = 0;
            for (int sum = 0; sum < 5; sum++) {
                all |= (sums >> sum & 1) == 1 ? outBehind(make.get(), sum, n) : 0;
            }
            boolean isFewer = best < 0 || Integer.bitCount(sums) < Integer.bitCount(best);
            best = isFewer && all == maySet(make.get()) ? sums : best;
        }
        return best < 0 ? Check.NONE : best;
    }

    private static void fewest() {
        Edge.says(26, "The fewest SUMS, as a set, such that each PRISONER who MAY is OUT by one of them, and nobody else "
                + "by any (n MINUTES, 1 to 100, of a NEW DAY each; none of them, if nobody MAY); of several the least.");
        for (int turn = 0; turn < 4; turn++) {
            int k = turn;
            for (int sums = 0; sums < 32; sums += 3) {
                int some = sums;
                int due = fewestDue(() -> mayBy(k, some, 20), 20);
                Edge.due("door " + turn + ", MAY by " + sums, due, mayBy(turn, sums, 20).fewest(20));
                Edge.due("there is one", 1, due >= 0 ? 1 : 0);
            }
            Edge.due("door " + turn + ", other MAY", fewestDue(() -> mixed(k), 20), mixed(turn).fewest(20));
        }
    }

    private static void skillFor() {
        Edge.says(27, "The least SKILL (1 to 9) with which a PRISONER would be OUT "
                + "behind n MINUTES (1 to 200) of a NEW DAY with a SUM.");
        for (int turn = 0; turn < 6; turn++) {
            SumDoor asked = mixed(turn);
            for (int p = 0; p <= 9; p++) {
                int sum = (p + turn) % 4;
                int n = 2 + 3 * (p % 4);
                int due = Check.NONE;
                for (int skill = 9; skill >= 1; skill--) {
                    SumDoor gone = mixed(turn);
                    gone.prisoner(p, 0, skill);
                    due = (outBehind(gone, sum, n) >> p & 1) == 1 ? skill : due;
                }
                Edge.due("door " + turn + ", PRISONER " + p + ", SUM " + sum + " behind " + n, due, asked.skillFor(p, sum, n));
            }
        }
    }

    private static void richFor() {
        Edge.says(28, "RICH (0 to 999) that is greatest with which nobody who may not is OUT behind n MINUTES (1 to 100) "
                + "of a NEW DAY with THE SUM (of 0, 100, 200, .. 900, and 999 alone).");
        for (int turn = 0; turn < 12; turn++) {
            SumDoor asked = wealthy(turn);
            for (int n : MANY) {
                int due = Check.NONE;
                for (int rich = 0; rich <= 1000; rich += 100) {
                    SumDoor gone = wealthy(turn);
                    gone.rich(Math.min(999, rich));
                    boolean isKept = (outBehind(gone, gone.count(1), n) & ~maySet(gone)) == 0;
                    due = isKept ? Math.min(999, rich) : due;
                }
                Edge.due("door " + turn + ", behind " + n, due, asked.richFor(n));
            }
        }
    }

    /** As mixed(), with CHALK up to 999. */
    private static SumDoor wealthy(int turn) {
        SumDoor d = mixed(turn);
        for (int p = 0; p <= 9; p++) {
            d.prisoner(p, 1, (p + 2) * (turn + 5) * 37 % 1000);
        }
        return d;
    }

    private static void could() {
        Edge.says(29, "SUMS of which a PRISONER would have an ANSWER behind n MINUTES (1 to 480) of a NEW DAY by (a) alone, "
                + "CHALK being as it is as that begins, and going down by (a), as a set.");
        for (int turn = 0; turn < 6; turn++) {
            SumDoor asked = mixed(turn);
            for (int p = 0; p <= 9; p++) {
                for (int n : MANY) {
                    int due = 0;
                    for (int sum = 0; sum < 5; sum++) {
                        due |= hasAlone(mixed(turn), p, sum, n) ? 1 << sum : 0;
                    }
                    Edge.due("door " + turn + ", PRISONER " + p + " behind " + n, due, asked.could(p, n));
                }
            }
        }
    }

    /** Nobody else has CHALK to work with, so there is nobody to buy of, nor lips to read. */
    private static boolean hasAlone(SumDoor d, int p, int sum, int n) {
        for (int other = 0; other <= 9; other++) {
            if (other != p) {
                d.prisoner(other, 1, 0);
            }
        }
        d.set(sum);
        d.minutes(n);
        return d.of(p, 6) != -1;
    }

    // ---- spots, sheets

    private static void as() {
        Edge.says(32, "What a SPOT holds as one of a kind (0 to 6): the number of the SUM.");
        SumDoor d = mixed(0);
        for (int spot = 0; spot <= 9; spot++) {
            d.hold(spot, spot % 5);
        }
        int[] kinds = {0, 5, 2, 6, 0};
        for (int spot = 0; spot <= 9; spot++) {
            Edge.due("spot " + spot, spot % 5, d.as(spot, kinds[spot % 5]));
            Edge.due("spot " + spot + " as any SUM", spot % 5, d.as(spot, 0));
        }
    }

    private static void load() {
        Edge.says(36, "Numbers of a sheet, from its begin on, become SKILL of PRISONERS 0, 1, ..: how many came.");
        SumDoor d = new SumDoor();
        d.sheet(2, 16, 4);
        int[] row = {9, 1, 5, 7};
        for (int i = 0; i < row.length; i++) {
            d.write(2, i, row[i]);
        }
        Edge.due("four", 4, d.load(2));
        for (int p = 0; p <= 9; p++) {
            Edge.due("SKILL of " + p, p < 4 ? row[p] : 3, d.of(p, 0));
        }
    }

    private static void judge() {
        Edge.says(37, "THE READER: numbers of a sheet are those that SOLVE a SUM, by size, all of them: 0 if so; "
                + "else 1 and how many are right, from the first on.");
        int[] right = {5, 14, 23, 32, 41, 50, 59, 68, 77, 86, 95};
        for (int wrong = 0; wrong <= right.length; wrong++) {
            SumDoor d = mixed(0);
            d.sheet(1, 32, right.length);
            for (int i = 0; i < right.length; i++) {
                d.write(1, i, i == wrong ? right[i] + 1 : right[i]);
            }
            Edge.due("number " + wrong + " is wrong", wrong == right.length ? 0 : 1 + wrong, d.judge(1, 2));
        }
    }

    // ---- images

    private static void count() {
        Edge.says(41, "0 SUMS, 1 THE SUM, 2 MINUTE, 3 RICH, 4 CHALK of all together, 5 bytes of THE TAPE, 6 z, "
                + "7 how many are OUT.");
        SumDoor d = Doors.busy();
        int chalk = 0;
        for (int p = 0; p <= 9; p++) {
            chalk += d.of(p, 1);
        }
        int[] due = {3, 0, 4, 44, chalk, 3, 77, Integer.bitCount(d.out())};
        for (int what = 0; what < due.length; what++) {
            Edge.due("what " + what, due[what], d.count(what));
        }
    }

    private static void status() {
        Edge.says(42, "How many acts answered a finding ever (undo() takes none back): "
                + "which -1: all, 0 to 6: BEYOND to SIZE.");
        SumDoor d = new SumDoor();
        d.image();
        d.load(0);
        d.load(0);
        d.load(4);
        d.undo();
        d.sheet(0, 8, -3);
        int[] due = {4, 1, 0, 0, 0, 0, 2, 1};
        for (int which = -1; which <= 6; which++) {
            Edge.due("which " + which, due[which + 1], d.status(which));
        }
    }
}

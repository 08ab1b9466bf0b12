/** Promises 12 to 17: PRISONERS, THE SUM, RICH, alms and schools. */
public final class PrisonersTest {
    public static void main(String[] args) {
        prisoner();
        of();
        set();
        rich();
        alms();
        school();
        Check.finish();
    }

    private static void prisoner() {
        int[] first = {3, 50, 10, 7, 1};
        int[] least = {1, 0, 0, 0, 0};
        int[] most = {9, 999, 99, 19, 1};
        SumDoor d = new SumDoor();
        for (int what = 0; what < 5; what++) {
            Check.due("12: was at first " + what, first[what], d.prisoner(7, what, most[what]));
            Check.due("12: was most " + what, most[what], d.prisoner(7, what, least[what]));
            Check.due("12: above", Check.BEYOND, d.prisoner(7, what, most[what] + 1));
            Check.due("12: below", Check.BEYOND, d.prisoner(7, what, least[what] - 1));
            Check.due("12: least stays " + what, least[what], d.of(7, what));
        }
        Check.due("12: nobody else", 3, d.of(6, 0));
        Check.due("12: prisoner -1", Check.BEYOND, d.prisoner(-1, 0, 1));
        Check.due("12: prisoner 10", Check.BEYOND, d.prisoner(10, 0, 1));
        Check.due("12: what -1", Check.BEYOND, d.prisoner(0, -1, 1));
        Check.due("12: what 5", Check.BEYOND, d.prisoner(0, 5, 0));
        Check.due("12: what least int", Check.BEYOND, d.prisoner(0, Integer.MIN_VALUE, 0));
        Check.due("12: status", 15, d.status(0));
    }

    private static void of() {
        SumDoor d = Check.doorWith("x=2", 0, 1);
        d.prisoner(3, 0, 5);
        d.prisoner(3, 2, 99);
        d.prisoner(3, 3, 15);
        d.prisoner(3, 4, 0);
        d.minutes(1);
        int[] working = {5, 49, 99, 15, 0, 2, -1, 1, 0};
        for (int what = 0; what < working.length; what++) {
            Check.due("13: at work " + what, working[what], d.of(3, what));
        }
        d.minutes(1);
        int[] gone = {5, 48, 99, 15, 0, 2, 2, 4, 1};
        for (int what = 0; what < 9; what++) {
            if (what != 1) {
                Check.due("13: gone " + what, gone[what], d.of(3, what));
            }
        }
        Check.due("13: prisoner -1", Check.BEYOND, d.of(-1, 0));
        Check.due("13: prisoner 10", Check.BEYOND, d.of(10, 0));
        Check.due("13: what -1", Check.BEYOND, d.of(0, -1));
        Check.due("13: what 9", Check.BEYOND, d.of(0, 9));
    }

    private static void set() {
        SumDoor d = new SumDoor();
        Check.due("14: no sum 0", Check.BEYOND, d.set(0));
        Check.due("14: -2", Check.BEYOND, d.set(-2));
        Check.due("14: none was", -1, d.set(-1));
        Check.sumFrom(d, "x=2", 0, 1);
        Check.sumFrom(d, "x=90", 0, 1);
        Check.due("14: to 0", -1, d.set(0));
        Check.due("14: all go", 10, d.minutes(10));
        Check.due("14: BEYOND", Check.BEYOND, d.set(2));
        Check.due("14: by a finding no day begins", 1023, d.out());
        int chalk = d.count(4);
        Check.due("14: to 1", 0, d.set(1));
        Check.due("14: nobody is OUT", 0, d.out());
        Check.due("14: MINUTE", 0, d.count(2));
        for (int p = 0; p < 10; p++) {
            Check.due("14: NUMBER", 0, d.of(p, 5));
            Check.due("14: ANSWER", -1, d.of(p, 6));
            Check.due("14: WORK", 0, d.of(p, 7));
        }
        Check.due("14: CHALK stays", chalk, d.count(4));
        d.minutes(1);
        Check.due("14: the same again", 1, d.set(1));
        Check.due("14: WORK is 0 again", 0, d.of(0, 7));
        Check.due("14: to none", 1, d.set(-1));
        Check.due("14: none", -1, d.count(1));
    }

    private static void rich() {
        SumDoor d = Check.doorWith("x=0", 0, 1);
        Check.due("15: at first", 999, d.rich(0));
        Check.due("15: was 0", 0, d.rich(48));
        Check.due("15: 1000", Check.BEYOND, d.rich(1000));
        Check.due("15: -1", Check.BEYOND, d.rich(-1));
        Check.due("15: stays", 48, d.count(3));
        Check.setAll(d, 2, 99);
        d.prisoner(4, 1, 48);
        d.prisoner(5, 1, 49);
        d.prisoner(6, 1, 50);
        Check.due("15: who is not above RICH goes: 47, 48, not 49", 2, d.minutes(1));
        Check.due("15: who", 48, d.out());
    }

    private static void alms() {
        SumDoor d = new SumDoor();
        Check.due("16: 0", Check.BEYOND, d.alms(0));
        Check.due("16: 11", Check.BEYOND, d.alms(11));
        Check.due("16: no draw by a finding", 1, d.count(6));
        Check.due("16: one", 501, d.alms(1));
        Check.due("16: z", 1103527590, d.count(6));
        Check.due("16: 1103527590 / 256 is 4310654", 51, d.of(4, 1));
        Check.due("16: two more", 503, d.alms(2));
        d.seed(-1);
        int z = -1;
        int[] chalk = new int[10];
        for (int p = 0; p < 10; p++) {
            chalk[p] = d.of(p, 1);
        }
        Check.due("16: ten more", 513, d.alms(10));
        for (int i = 0; i < 10; i++) {
            z = z * 1103515245 + 12345;
            chalk[(z >>> 8) % 10]++;
        }
        for (int p = 0; p < 10; p++) {
            Check.due("16: CHALK of " + p, chalk[p], d.of(p, 1));
        }
        Check.due("16: z behind ten", z, d.count(6));
        Check.setAll(d, 1, 999);
        Check.due("16: 999 at most", 9990, d.alms(10));
    }

    private static void school() {
        SumDoor d = new SumDoor();
        d.prisoner(2, 0, 5);
        Check.due("17: the lesser told first", 4, d.school(1, 2));
        Check.due("17: who taught has 2 less", 48, d.of(2, 1));
        Check.due("17: who learnt pays nothing", 50, d.of(1, 1));
        Check.due("17: the greater told first", 5, d.school(2, 1));
        Check.due("17: learnt", 5, d.of(1, 0));
        Check.due("17: taught again", 46, d.of(2, 1));
        Check.due("17: both alike", Check.STATE, d.school(2, 1));
        d.prisoner(3, 0, 9);
        d.prisoner(3, 1, 1);
        d.prisoner(4, 0, 8);
        Check.due("17: up to 9", 9, d.school(4, 3));
        Check.due("17: 0 at least", 0, d.of(3, 1));
        Check.due("17: the same", Check.BEYOND, d.school(3, 3));
        Check.due("17: one -1", Check.BEYOND, d.school(-1, 3));
        Check.due("17: one 10", Check.BEYOND, d.school(10, 3));
        Check.due("17: other -1", Check.BEYOND, d.school(3, -1));
        Check.due("17: other 10", Check.BEYOND, d.school(3, 10));
        Check.due("17: both beyond and the same", Check.BEYOND, d.school(10, 10));
    }
}

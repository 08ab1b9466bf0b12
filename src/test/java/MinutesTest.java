/** Promises 18 to 22: what a MINUTE does, step by step, and what is seen AHEAD. */
public final class MinutesTest {
    public static void main(String[] args) {
        workAlone();
        workGoesRound();
        noChalk();
        noSum();
        changedSum();
        selling();
        sellers();
        lips();
        firstReads();
        whoseLips();
        minutesAndState();
        outAndDay();
        ahead();
        when();
        Check.finish();
    }

    /** PRISONER 0 alone has CHALK; answers are too dear for the others. */
    private static SumDoor zeroAlone(String text) {
        SumDoor d = Check.doorWith(text, 0, 1);
        for (int p = 1; p < 10; p++) {
            d.prisoner(p, 1, 0);
        }
        return d;
    }

    private static void state(String what, SumDoor d, int p, int number, int answer, int work) {
        Check.due(what + ": NUMBER", number, d.of(p, 5));
        Check.due(what + ": ANSWER", answer, d.of(p, 6));
        Check.due(what + ": WORK", work, d.of(p, 7));
    }

    private static void workAlone() {
        SumDoor d = zeroAlone("x=3");
        Check.due("18: first", 0, d.minutes(1));
        state("18: first", d, 0, 1, -1, 1);
        Check.due("18: CHALK", 49, d.of(0, 1));
        Check.due("18: second", 0, d.minutes(1));
        state("18: second", d, 0, 3, -1, 0);
        Check.due("18: third", 1, d.minutes(1));
        state("18: third", d, 0, 3, 3, 1);
        Check.due("18: OUT", 1, d.of(0, 8));
        Check.due("18: later nothing comes", 0, d.minutes(10));
        Check.due("18: CHALK of who is OUT", 47, d.of(0, 1));
        Check.due("18: MINUTE", 13, d.count(2));
        SumDoor quick = zeroAlone("x=0");
        quick.prisoner(0, 0, 9);
        quick.minutes(1);
        state("18: no more of it with an ANSWER", quick, 0, 0, 0, 7);
    }

    private static void workGoesRound() {
        SumDoor d = zeroAlone("x=100");
        d.prisoner(0, 0, 9);
        d.prisoner(0, 1, 999);
        d.minutes(44);
        state("18: 99", d, 0, 99, -1, 0);
        d.minutes(1);
        state("18: behind 99", d, 0, 1, -1, 1);
    }

    private static void noChalk() {
        SumDoor d = zeroAlone("x=100");
        d.prisoner(0, 0, 1);
        d.prisoner(0, 1, 2);
        d.minutes(5);
        state("18: no CHALK", d, 0, 0, -1, 2);
        Check.due("18: CHALK is 0", 0, d.of(0, 1));
        Check.due("18: all CHALK", 0, d.count(4));
    }

    private static void noSum() {
        SumDoor d = new SumDoor();
        Check.due("18: without THE SUM", 0, d.minutes(100));
        Check.due("18: MINUTE", 100, d.count(2));
        Check.due("18: CHALK", 500, d.count(4));
        state("18: without THE SUM", d, 0, 0, -1, 0);
    }

    private static void changedSum() {
        SumDoor d = zeroAlone("x+x+x+x=999");
        d.change(0, 0, 3);
        d.prisoner(0, 0, 9);
        d.minutes(1);
        state("18: ODD is harder by 5", d, 0, 0, -1, 9);
        d.change(0, 0, 0);
        d.minutes(1);
        state("18: HARD is asked each MINUTE", d, 0, 1, -1, 8);
        d.change(0, 0, 4);
        d.minutes(1);
        state("18: an OTHER one is solved", d, 0, 1, 1, 7);
    }

    private static void selling() {
        SumDoor d = zeroAlone("x=0");
        d.prisoner(1, 0, 1);
        d.prisoner(1, 1, 12);
        d.prisoner(1, 2, 4);
        d.prisoner(2, 0, 1);
        d.prisoner(2, 1, 5);
        Check.due("18: 1 buys of 0, 2 of 1, by (b)", 3, d.minutes(1));
        Check.due("18: who", 7, d.out());
        int[] chalk = {59, 5, 0, 0};
        for (int p = 0; p < chalk.length; p++) {
            Check.due("18: CHALK of " + p, chalk[p], d.of(p, 1));
        }
        state("18: who bought", d, 2, 0, 0, 1);
        d.prisoner(3, 1, 50);
        d.prisoner(3, 0, 1);
        d.minutes(1);
        Check.due("18: who is OUT sells nothing", -1, d.of(3, 6));
        SumDoor free = zeroAlone("x=0");
        free.prisoner(0, 2, 0);
        Check.due("18: at no PRICE all buy, by no CHALK", 10, free.minutes(1));
        SumDoor dear = zeroAlone("x=0");
        dear.prisoner(1, 0, 1);
        dear.prisoner(1, 1, 10);
        Check.due("18: one CHALK too few behind (a)", 1, dear.minutes(1));
        Check.due("18: it stays his", 9, dear.of(1, 1));
        SumDoor just = zeroAlone("x=0");
        just.prisoner(1, 0, 1);
        just.prisoner(1, 1, 11);
        Check.due("18: just enough", 2, just.minutes(1));
        Check.due("18: all of it goes over", 0, just.of(1, 1));
    }

    private static void sellers() {
        SumDoor tie = zeroAlone("x=0");
        tie.prisoner(1, 1, 50);
        tie.prisoner(2, 0, 1);
        tie.prisoner(2, 1, 50);
        Check.due("18: of several the least number", 3, tie.minutes(1));
        Check.due("18: 0 sold", 59, tie.of(0, 1));
        Check.due("18: 1 did not", 49, tie.of(1, 1));
        SumDoor cheap = zeroAlone("x=0");
        cheap.prisoner(1, 1, 50);
        cheap.prisoner(1, 2, 9);
        cheap.prisoner(2, 0, 1);
        cheap.prisoner(2, 1, 50);
        cheap.minutes(1);
        Check.due("18: the least PRICE: 0 did not sell", 49, cheap.of(0, 1));
        Check.due("18: 1 sold", 58, cheap.of(1, 1));
        SumDoor order = Check.doorWith("x=0", 0, 1);
        Check.setAll(order, 0, 1);
        Check.setAll(order, 1, 0);
        order.prisoner(5, 0, 2);
        order.prisoner(5, 1, 995);
        order.prisoner(5, 2, 50);
        order.prisoner(0, 1, 52);
        order.prisoner(1, 1, 60);
        order.prisoner(1, 2, 1);
        Check.due("18: 0 asks ahead of 1, who would sell for less", 3, order.minutes(1));
        Check.due("18: 0 paid 50 and got 10", 11, order.of(0, 1));
        Check.due("18: 1 paid 10, to 0", 49, order.of(1, 1));
        Check.due("18: who sells has 999 at most", 999, order.of(5, 1));
    }

    private static void lips() {
        SumDoor d = zeroAlone("x=3");
        d.rich(0);
        Check.due("18: has an ANSWER, but is too rich", 0, d.minutes(3));
        Check.due("18: his ANSWER", 3, d.of(0, 6));
        Check.due("18: nobody reads it in the same MINUTE", -1, d.of(1, 6));
        Check.due("18: 1 reads it", 1, d.minutes(1));
        Check.due("18: 1 is OUT", 2, d.out());
        Check.due("18: 2 has nobody to read", 0, d.minutes(5));
        d.prisoner(6, 3, 0);
        Check.due("18: not in the same CELL", 0, d.minutes(1));
        d.prisoner(5, 3, 1);
        Check.due("18: from the CELL above", 1, d.minutes(1));
        Check.due("18: who is OUT", 34, d.out());
        d.prisoner(0, 3, 9);
        Check.due("18: 8 reads from the CELL below", 1, d.minutes(1));
        Check.due("18: 8 too", 34 + 256, d.out());
        state("18: who reads has worked nothing", d, 8, 0, 3, 0);
        Check.due("18: and pays nothing", 47, d.of(0, 1));
    }

    private static void firstReads() {
        SumDoor d = Check.doorWith("x=0", 0, 1);
        Check.setAll(d, 1, 0);
        d.prisoner(1, 1, 50);
        d.rich(0);
        Check.due("18: 1 is too rich", 0, d.minutes(1));
        Check.due("18: 0 and 2 read", 2, d.minutes(1));
        Check.due("18: they are OUT", 5, d.out());
    }

    /** PRISONER 0 has ANSWER 3, 1 has 0, both are too rich to go; 2 stands between, without CHALK. */
    private static SumDoor twoAnswers() {
        SumDoor d = zeroAlone("x=3");
        Check.setAll(d, 2, 99);
        Check.setAll(d, 3, 15);
        d.prisoner(0, 3, 0);
        d.rich(0);
        d.minutes(3);
        d.prisoner(1, 1, 50);
        d.prisoner(1, 3, 19);
        d.change(0, 0, 4);
        d.minutes(1);
        Check.due("18: one ANSWER", 3, d.of(0, 6));
        Check.due("18: another ANSWER", 0, d.of(1, 6));
        d.prisoner(2, 3, 5);
        return d;
    }

    private static void whoseLips() {
        SumDoor d = twoAnswers();
        d.prisoner(0, 3, 6);
        d.prisoner(1, 3, 4);
        d.minutes(1);
        Check.due("18: that of the lesser CELL", 0, d.of(2, 6));
        SumDoor e = twoAnswers();
        e.prisoner(0, 3, 4);
        e.prisoner(1, 3, 6);
        e.minutes(1);
        Check.due("18: that of the lesser CELL, turned", 3, e.of(2, 6));
        SumDoor f = twoAnswers();
        f.prisoner(0, 3, 6);
        f.prisoner(1, 3, 6);
        f.minutes(1);
        Check.due("18: of several there the least number", 3, f.of(2, 6));
        SumDoor g = twoAnswers();
        g.prisoner(1, 2, 0);
        g.prisoner(0, 3, 4);
        g.minutes(1);
        Check.due("18: (b) is ahead of (c)", 0, g.of(2, 6));
    }

    private static void minutesAndState() {
        SumDoor d = new SumDoor();
        Check.due("18: 0", Check.BEYOND, d.minutes(0));
        Check.due("18: 101", Check.BEYOND, d.minutes(101));
        Check.due("18: -1", Check.BEYOND, d.minutes(-1));
        for (int i = 0; i < 4; i++) {
            Check.due("18: 100", 0, d.minutes(100));
        }
        Check.due("18: 481 would be above", Check.STATE, d.minutes(81));
        Check.due("18: nothing changed", 400, d.count(2));
        Check.due("18: 480", 0, d.minutes(80));
        Check.due("18: no more", Check.STATE, d.minutes(1));
        Check.due("18: BEYOND ahead of STATE", Check.BEYOND, d.minutes(101));
        Check.due("21: none ahead at 480", 0, d.ahead(0, 0));
        Check.due("21: one ahead at 480", Check.STATE, d.ahead(1, 0));
        Check.due("21: BEYOND ahead of STATE", Check.BEYOND, d.ahead(1, 3));
        Check.due("22: late", Check.STATE, d.when(0));
        Check.due("22: BEYOND ahead of STATE", Check.BEYOND, d.when(-1));
        Check.due("20: day", 0, d.day());
        Check.due("20: MINUTE is 0", 0, d.count(2));
    }

    private static void outAndDay() {
        SumDoor d = zeroAlone("x=3");
        d.prisoner(0, 1, 0);
        d.prisoner(4, 1, 50);
        d.prisoner(9, 1, 50);
        Check.due("19: nobody", 0, d.out());
        Check.due("18: two in them", 2, d.minutes(3));
        Check.due("19: 4 and 9", 16 + 512, d.out());
        Check.due("41: how many", 2, d.count(7));
        Check.due("20: two were", 2, d.day());
        Check.due("19: nobody then", 0, d.out());
        Check.due("20: MINUTE", 0, d.count(2));
        Check.due("20: THE SUM stays", 0, d.count(1));
        Check.due("20: CHALK stays", 94, d.count(4));
        state("20: 4", d, 4, 0, -1, 0);
        state("20: 9", d, 9, 0, -1, 0);
        Check.due("20: none were", 0, d.day());
    }

    private static void ahead() {
        SumDoor d = zeroAlone("x=3");
        d.rich(0);
        d.minutes(1);
        Check.due("21: now", 0, d.ahead(0, 0));
        Check.due("21: CHALK now", 49, d.ahead(0, 2));
        Check.due("21: answers by 1", 0, d.ahead(1, 1));
        Check.due("21: answers by 2", 1, d.ahead(2, 1));
        Check.due("21: OUT by 2", 0, d.ahead(2, 0));
        Check.due("21: OUT by 3", 2, d.ahead(3, 0));
        Check.due("21: answers by 3, who is OUT too", 3, d.ahead(3, 1));
        Check.due("21: CHALK by 200", 47, d.ahead(200, 2));
        state("21: nothing changes", d, 0, 1, -1, 1);
        Check.due("21: CHALK stays", 49, d.of(0, 1));
        Check.due("21: MINUTE stays", 1, d.count(2));
        Check.due("21: nobody is OUT", 0, d.out());
        Check.due("21: n -1", Check.BEYOND, d.ahead(-1, 0));
        Check.due("21: n 201", Check.BEYOND, d.ahead(201, 0));
        Check.due("21: what -1", Check.BEYOND, d.ahead(1, -1));
        Check.due("21: what 3", Check.BEYOND, d.ahead(1, 3));
        d.set(-1);
        d.minutes(100);
        d.minutes(100);
        d.minutes(80);
        Check.due("21: 480 just reached", 49, d.ahead(200, 2));
        Check.due("22: MINUTE 280", Check.NONE, d.when(0));
        d.minutes(1);
        Check.due("21: 481", Check.STATE, d.ahead(200, 2));
        Check.due("22: MINUTE 281", Check.STATE, d.when(0));
    }

    private static void when() {
        SumDoor d = zeroAlone("x=3");
        Check.due("22: 0", 3, d.when(0));
        Check.due("22: 1 never", Check.NONE, d.when(1));
        d.minutes(1);
        Check.due("22: 0, from now", 2, d.when(0));
        Check.due("22: nothing changes", 1, d.of(0, 7));
        d.minutes(2);
        Check.due("22: he is OUT", Check.STATE, d.when(0));
        Check.due("22: -1", Check.BEYOND, d.when(-1));
        Check.due("22: 10", Check.BEYOND, d.when(10));
        SumDoor late = zeroAlone("x=049");
        late.prisoner(0, 0, 1);
        late.prisoner(0, 1, 200);
        Check.due("22: behind just 200", 200, late.when(0));
        late.prisoner(0, 1, 199);
        Check.due("22: no CHALK for the last", Check.NONE, late.when(0));
        SumDoor later = zeroAlone("x=100-1");
        later.prisoner(0, 1, 999);
        Check.due("22: 600 of WORK by 3", 200, later.when(0));
        later.prisoner(0, 0, 2);
        Check.due("22: behind 300", Check.NONE, later.when(0));
        Check.due("22: without THE SUM", Check.NONE, new SumDoor().when(5));
    }
}

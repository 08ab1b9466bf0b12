/** Promises 38 to 42: images, count(), status(). */
public final class ImagesTest {
    public static void main(String[] args) {
        imageAndUndo();
        latest();
        tear();
        sumsOfImages();
        count();
        status();
        Check.finish();
    }

    private static void imageAndUndo() {
        SumDoor d = Check.doorWith("x=3", 2, 7);
        Check.due("39: nothing is kept", Check.NONE, d.undo());
        d.hold(4, 0);
        d.rich(500);
        d.seed(77);
        d.prisoner(2, 2, 33);
        d.minutes(2);
        d.sheet(0, 8, 1);
        Check.due("38: image", 1, d.image());
        int chalk = d.count(4);
        int[][] before = new int[10][9];
        for (int p = 0; p < 10; p++) {
            for (int what = 0; what < 9; what++) {
                before[p][what] = d.of(p, what);
            }
        }
        d.minutes(9);
        d.alms(3);
        d.rich(1);
        d.change(0, 0, 6);
        d.change(0, 1, 9);
        Check.sumFrom(d, "x=4", 0, 1);
        d.hold(4, 1);
        d.hold(5, 1);
        d.set(1);
        d.prisoner(2, 2, 34);
        d.prisoner(2, 3, 0);
        d.prisoner(2, 4, 0);
        d.prisoner(2, 0, 9);
        Check.feedText(d, "x=5");
        d.write(0, 0, 6);
        d.undo();
        Check.due("39: MINUTE is told", 2, d.undo());
        for (int p = 0; p < 10; p++) {
            for (int what = 0; what < 9; what++) {
                Check.due("39: of " + p + " " + what, before[p][what], d.of(p, what));
            }
        }
        int[] counts = {1, 0, 2, 500, chalk, 3, 77, 0};
        for (int what = 0; what < counts.length; what++) {
            Check.due("39: count " + what, counts[what], d.count(what));
        }
        Check.due("39: kind", 2, d.sumOf(0, 0));
        Check.due("39: m", 7, d.sumOf(0, 1));
        Check.due("39: spot 4", 0, d.as(4, 2));
        Check.due("39: spot 5", Check.MISSING, d.as(5, 0));
        Check.due("38: not THE TAPE", 1, d.sum(0, 1));
        Check.due("38: not SHEETS", 1, d.load(0));
        Check.due("39: what was written stays", 6, d.of(0, 0));
        Check.due("42: undo() takes none back", 2, d.status(-1));
        d.undo();
        Check.due("39: what is kept stays", 1, d.count(0));
        Check.due("39: SKILL too", 3, d.of(0, 0));
        Check.due("42: still", 2, d.status(-1));
    }

    private static void latest() {
        SumDoor d = new SumDoor();
        d.minutes(5);
        d.image();
        d.minutes(5);
        Check.due("38: again", 1, d.image());
        d.minutes(5);
        Check.due("39: the latest", 10, d.undo());
        Check.due("39: and again", 10, d.undo());
        d.minutes(7);
        d.image();
        Check.due("39: unchanged", 17, d.undo());
    }

    private static void tear() {
        SumDoor d = new SumDoor();
        Check.due("40: nothing was", 0, d.tear());
        d.image();
        d.image();
        Check.due("40: something was", 1, d.tear());
        Check.due("40: all is torn", 0, d.tear());
        Check.due("40: nothing is kept", Check.NONE, d.undo());
        d.rich(5);
        Check.due("40: it changes nothing else", 5, d.count(3));
        d.image();
        d.rich(6);
        Check.due("40: kept anew", 0, d.undo());
        Check.due("40: as it was then", 5, d.count(3));
    }

    private static void sumsOfImages() {
        SumDoor d = new SumDoor();
        Check.sumFrom(d, "x=10", 0, 1);
        d.image();
        Check.sumFrom(d, "x=20", 0, 1);
        d.undo();
        Check.due("39: the new one is gone", Check.BEYOND, d.solution(1, 0));
        Check.due("39: its number is free", 1, Check.sumFrom(d, "x=30", 0, 1));
        Check.due("39: another TEXT", 30, d.solution(1, 0));
        Check.due("39: the old TEXT", 10, d.solution(0, 0));
        d.image();
        d.change(1, 0, 4);
        d.undo();
        Check.due("39: it is kept now", 30, d.solution(1, 0));
    }

    private static void count() {
        SumDoor d = Check.doorWith("x=2", 0, 1);
        d.feed('x', 1);
        d.rich(12);
        d.seed(-5);
        d.prisoner(0, 1, 0);
        d.prisoner(1, 1, 11);
        Check.due("41: SUMS", 1, d.count(0));
        Check.due("41: THE SUM", 0, d.count(1));
        Check.due("41: RICH", 12, d.count(3));
        Check.due("41: CHALK", 411, d.count(4));
        Check.due("41: bytes", 1, d.count(5));
        Check.due("41: z", -5, d.count(6));
        d.minutes(2);
        Check.due("41: MINUTE", 2, d.count(2));
        Check.due("41: 1 alone is not too rich", 1, d.count(7));
        Check.due("41: what -1", Check.BEYOND, d.count(-1));
        Check.due("41: what 8", Check.BEYOND, d.count(8));
        d.seed(Check.SIZE);
        Check.due("41: z as any int", Check.SIZE, d.count(6));
        Check.due("41: no finding", 2, d.status(-1));
        SumDoor e = Check.doorWith("x=0", 0, 1);
        e.minutes(1);
        Check.due("41: all are OUT", 10, e.count(7));
    }

    private static void status() {
        SumDoor d = new SumDoor();
        for (int which = -1; which <= 6; which++) {
            Check.due("42: none yet " + which, 0, d.status(which));
        }
        Check.due("42: another one", Check.BEYOND, d.status(7));
        Check.due("42: counted from then on", 1, d.status(0));
        Check.due("42: -2", Check.BEYOND, d.status(-2));
        Check.due("42: counted, too", 2, d.status(-1));
        for (int i = 0; i < 10; i++) {
            d.feed(0, 4);
        }
        d.feed(0, 1);
        d.feed(0, 4);
        d.wipe();
        Check.sumFrom(d, "x=1", 1, 1);
        d.hold(0, 0);
        for (int i = 0; i < 3; i++) {
            d.as(0, 2);
        }
        for (int i = 0; i < 4; i++) {
            d.undo();
        }
        for (int i = 0; i < 5; i++) {
            d.school(0, 1);
        }
        for (int i = 0; i < 6; i++) {
            d.as(1, 0);
        }
        for (int i = 0; i < 7; i++) {
            d.sheet(0, 8, -1);
        }
        int[] due = {2, 2, 3, 4, 5, 6, 7};
        for (int which = 0; which < due.length; which++) {
            Check.due("42: " + which, due[which], d.status(which));
        }
        Check.due("42: all", 29, d.status(-1));
        Check.due("42: a FAULT is none", -10, d.sum(0, 1));
        Check.due("42: all as before", 29, d.status(-1));
    }
}

/** What the tests share: answers that are due, and texts put on a tape. */
final class Check {
    static final int BEYOND = -1000001;
    static final int FULL = -1000002;
    static final int KIND = -1000003;
    static final int NONE = -1000004;
    static final int STATE = -1000005;
    static final int MISSING = -1000006;
    static final int SIZE = -1000007;

    private static int wrong = 0;
    private static int asked = 0;

    private Check() {
    }

    static void due(String call, long want, long got) {
        asked++;
        if (got != want) {
            wrong++;
            System.out.println(call + " answered " + got + ", due is " + want);
        }
    }

    static void finish() {
        System.out.println(wrong == 0 ? asked + " answers are as due" : wrong + " answers are not as due");
        if (wrong != 0) {
            System.exit(1);
        }
    }

    static void feedText(SumDoor door, String text) {
        for (int i = 0; i < text.length(); i++) {
            door.feed(text.charAt(i), 1);
        }
    }

    static int sumFrom(SumDoor door, String text, int kind, int m) {
        feedText(door, text);
        return door.sum(kind, m);
    }

    /** A door with one SUM, which is THE SUM. */
    static SumDoor doorWith(String text, int kind, int m) {
        SumDoor door = new SumDoor();
        sumFrom(door, text, kind, m);
        door.set(0);
        return door;
    }

    /** All PRISONERS' part becomes v. */
    static void setAll(SumDoor door, int what, int v) {
        for (int p = 0; p < 10; p++) {
            door.prisoner(p, what, v);
        }
    }
}

/** Doors to be asked at the edges; each method makes the same one again. */
final class Doors {
    private Doors() {
    }

    /**
     * Three SUMS (THE SUM is 0), MINUTE 4, PRISONER 2 is OUT, 9 has no ANSWER yet, the others are too rich to go,
     * an image of MINUTE 2, SPOTS 1 and 2, SHEETS 0 (8 bits: 1 to 6), 1 (8 bits: four 9), 2 (16 bits: six 2),
     * 3 MISSING, THE TAPE has x=1.
     */
    static SumDoor busy() {
        SumDoor d = new SumDoor();
        Check.sumFrom(d, "x=5", 0, 10);
        Check.sumFrom(d, "x=41", 2, 20);
        Check.sumFrom(d, "x+x=9", 1, 30);
        Check.setAll(d, 2, 99);
        d.prisoner(2, 0, 9);
        d.prisoner(2, 1, 40);
        d.prisoner(5, 0, 6);
        d.prisoner(6, 4, 0);
        d.prisoner(7, 3, 19);
        d.prisoner(9, 0, 1);
        d.set(0);
        d.rich(44);
        d.seed(77);
        d.minutes(2);
        d.hold(1, 0);
        d.image();
        d.minutes(2);
        d.hold(2, 1);
        d.sheet(0, 8, 6);
        d.sheet(1, 8, 4);
        d.sheet(2, 16, 6);
        for (int i = 0; i < 6; i++) {
            d.write(0, i, i + 1);
            d.write(2, i, 2);
        }
        for (int i = 0; i < 4; i++) {
            d.write(1, i, 9);
        }
        Check.feedText(d, "x=1");
        return d;
    }

    /** Eight SUMS, x=10 to x=17, of which an image has the first two; THE TAPE is empty. */
    static SumDoor eight() {
        SumDoor d = new SumDoor();
        for (int s = 0; s < 8; s++) {
            Check.sumFrom(d, "x=1" + s, 0, 10);
            if (s == 1) {
                d.image();
            }
        }
        return d;
    }

    /** Eight SUMS, and a TEXT, or none, on THE TAPE. */
    static SumDoor eightAnd(String text) {
        SumDoor d = eight();
        Check.feedText(d, text);
        return d;
    }

    /** A SUM, none of them THE SUM, at a MINUTE. */
    static SumDoor at(int minute) {
        SumDoor d = new SumDoor();
        Check.sumFrom(d, "x=5", 0, 10);
        for (int left = minute; left > 0; left -= 100) {
            d.minutes(Math.min(100, left));
        }
        return d;
    }

    /** One SUM, of a TEXT and a kind. */
    static SumDoor one(String text, int kind, int m) {
        SumDoor d = new SumDoor();
        Check.sumFrom(d, text, kind, m);
        return d;
    }

    /**
     * THE SUM is of that TEXT; nobody has CHALK, and each asks 99 for an answer. The CELLS are 15, but PRISONER 0's:
     * nobody reads another's lips.
     */
    static SumDoor poor(String text) {
        SumDoor d = Check.doorWith(text, 0, 10);
        Check.setAll(d, 1, 0);
        Check.setAll(d, 2, 99);
        Check.setAll(d, 3, 15);
        d.prisoner(0, 3, 0);
        return d;
    }

    /** As poor(), but PRISONER 0 has SKILL and CHALK as told. */
    static SumDoor worker(String text, int skill, int chalk) {
        SumDoor d = poor(text);
        d.prisoner(0, 0, skill);
        d.prisoner(0, 1, chalk);
        return d;
    }
}

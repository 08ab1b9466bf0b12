import java.util.Random;

/** Long runs of calls, made by numbered seeds, on the class and on the model: every answer must be the same. */
public final class ModelTest {
    private static final int RUNS = 320;
    /** Nothing is promised of later calls. */
    private static final int CALLS = 512;
    /** More than what the longest step and compareAll() take. */
    private static final int LAST_CALLS = 160;
    private static final String[] NAMES = {
        "feed", "wipe", "sum", "sumOf", "change", "side", "solves", "solution", "both", "strict", "prisoner", "of",
        "set", "rich", "alms", "school", "minutes", "out", "day", "ahead", "when", "lets", "choose", "wrongs", "fewest",
        "skillFor", "richFor", "could", "seed", "hold", "as", "sheet", "write", "copy", "load", "judge", "image",
        "undo", "tear", "count", "status"};
    private static final int[] ODD_ONES = {
        Integer.MIN_VALUE, Integer.MIN_VALUE + 1, -1000001, -2, -1, 0, 1, 1000, Integer.MAX_VALUE};

    private final Random random;
    private final SumDoor door = new SumDoor();
    private final Model model = new Model();
    private final String run;
    private final boolean isWild;
    private int asked = 0;

    private ModelTest(int seed) {
        random = new Random(seed);
        run = "run " + seed;
        isWild = seed % 4 == 3;
    }

    public static void main(String[] args) {
        for (int seed = 0; seed < RUNS; seed++) {
            new ModelTest(seed).go();
        }
        for (int length = 0; length <= 5; length++) {
            everyTextOf(new StringBuilder(), length);
        }
        Check.finish();
    }

    /** A sign of each sort that a TEXT has, and one that it has not, in any order. */
    private static void everyTextOf(StringBuilder text, int length) {
        if (text.length() == length) {
            compareText(text.toString());
            return;
        }
        for (char sign : "x1+*()=y".toCharArray()) {
            everyTextOf(text.append(sign), length);
            text.setLength(text.length() - 1);
        }
    }

    private static void compareText(String text) {
        SumDoor door = new SumDoor();
        int got = Check.sumFrom(door, text, 0, 1);
        try {
            int[] sides = new Model.Reader(text, 5).whole();
            Check.due("a SUM: " + text, 0, got);
            Check.due("left of " + text, sides[0], door.side(0, 0, 5));
            Check.due("right of " + text, sides[1], door.side(0, 1, 5));
        } catch (Model.Fault fault) {
            Check.due("the FAULT of " + text, -10 - fault.place, got);
        }
    }

    private void go() {
        for (int i = 0; asked < CALLS - LAST_CALLS; i++) {
            int roll = random.nextInt(100);
            if (roll < (model.now.sums.size() < 8 ? 10 : 1)) {
                makeSum(i);
            } else if (roll < 25) {
                ask(i, random.nextBoolean() ? "prisoner" : "minutes");
            } else {
                ask(i, NAMES[random.nextInt(NAMES.length)]);
            }
        }
        compareAll();
    }

    private void makeSum(int i) {
        call(i, "wipe");
        String text = random.nextInt(5) == 0 ? anyBytes() : side(0) + "=" + side(0);
        for (int k = 0; k < text.length() && k < 40; k++) {
            call(i, "feed", text.charAt(k), 1);
        }
        call(i, "sum", random.nextInt(7), 1 + random.nextInt(99));
    }

    private String anyBytes() {
        StringBuilder text = new StringBuilder(side(0) + "=" + side(0));
        String signs = "x()+-*/%=0123456789y\u00ff ";
        int place = random.nextInt(text.length());
        char sign = signs.charAt(random.nextInt(signs.length()));
        switch (random.nextInt(3)) {
            case 0 -> text.setCharAt(place, sign);
            case 1 -> text.insert(place, sign);
            default -> text.deleteCharAt(place);
        }
        return text.toString();
    }

    private String side(int depth) {
        StringBuilder text = new StringBuilder(piece(depth));
        while (random.nextInt(5) < 2) {
            text.append("+-*/%".charAt(random.nextInt(5))).append(piece(depth));
        }
        return text.toString();
    }

    private String piece(int depth) {
        int roll = random.nextInt(10);
        if (roll < 4) {
            return "x";
        }
        if (roll < 7 || depth > 4) {
            String digits = "" + random.nextInt(1000);
            return random.nextInt(4) == 0 ? digits : digits.substring(0, 1);
        }
        return roll < 8 ? "00" + random.nextInt(10) : "(" + side(depth + 1) + ")";
    }

    /** Mostly an argument that is in bounds, or just beyond them. */
    private int pick(int least, int most) {
        if (random.nextInt(isWild ? 3 : 25) == 0) {
            int odd = random.nextInt(ODD_ONES.length + 2);
            return odd < ODD_ONES.length ? ODD_ONES[odd] : odd == ODD_ONES.length ? least - 1 : most + 1;
        }
        return least + random.nextInt(most - least + 1);
    }

    private int pickSum() {
        return pick(0, Math.max(0, model.now.sums.size() - 1));
    }

    private void ask(int i, String name) {
        switch (name) {
            case "feed" -> call(i, name, random.nextInt(), pick(1, 4));
            case "sum" -> call(i, name, pick(0, 6), pick(1, 99));
            case "sumOf" -> call(i, name, pickSum(), pick(0, 3));
            case "change" -> {
                int what = pick(0, 1);
                call(i, name, pickSum(), what, what == 0 ? pick(0, 6) : pick(1, 99));
            }
            case "side" -> call(i, name, pickSum(), pick(0, 1), random.nextBoolean() ? random.nextInt() : pick(0, 99));
            case "solves", "solution" -> call(i, name, pickSum(), pick(0, random.nextBoolean() ? 99 : 5));
            case "both" -> call(i, name, pickSum(), pickSum());
            case "strict" -> call(i, name, pickSum());
            case "prisoner" -> {
                int what = pick(0, 4);
                int[] most = {9, random.nextBoolean() ? 60 : 999, 99, random.nextBoolean() ? 4 : 19, 1};
                call(i, name, pick(0, 9), what, pick(what == 0 ? 1 : 0, what < 0 || what > 4 ? 9 : most[what]));
            }
            case "of" -> call(i, name, pick(0, 9), pick(0, 8));
            case "set" -> call(i, name, random.nextInt(5) == 0 ? -1 : pickSum());
            case "rich" -> call(i, name, random.nextBoolean() ? pick(0, 999) : pick(0, 60));
            case "alms" -> call(i, name, pick(1, 10));
            case "school" -> call(i, name, pick(0, 9), pick(0, 9));
            case "minutes" -> call(i, name, random.nextInt(3) > 0 ? pick(1, 8) : pick(1, 100));
            case "ahead" -> call(i, name, pick(0, 200), pick(0, 2));
            case "when" -> call(i, name, pick(0, 9));
            case "lets", "wrongs" -> call(i, name, pickSum(), pick(1, random.nextBoolean() ? 200 : 20));
            case "choose" -> call(i, name, pick(1, random.nextBoolean() ? 200 : 20));
            case "fewest" -> {
                matchMay(i);
                call(i, name, pick(1, random.nextBoolean() ? 100 : 20));
            }
            case "skillFor" -> call(i, name, pick(0, 9), pickSum(), pick(1, random.nextBoolean() ? 200 : 20));
            case "richFor" -> call(i, name, pick(1, random.nextBoolean() ? 100 : 20));
            case "could" -> call(i, name, pick(0, 9), pick(1, random.nextBoolean() ? 480 : 20));
            case "seed" -> call(i, name, random.nextInt());
            case "hold" -> call(i, name, pick(0, 9), random.nextInt(5) == 0 ? -1 : pickSum());
            case "as" -> call(i, name, pick(0, 9), pick(0, 6));
            case "sheet" -> call(i, name, pick(0, 3), random.nextInt(8) == 0 ? pick(0, 32) : 8 << random.nextInt(3),
                    random.nextBoolean() ? pick(0, 40) : pick(0, 4));
            case "write" -> call(i, name, pick(0, 3), pick(0, 12),
                    random.nextBoolean() ? random.nextInt() : pick(1, 9));
            case "copy" -> call(i, name, pick(0, 3), pick(0, 6), pick(0, 3), pick(0, 6), pick(0, 6));
            case "load" -> call(i, name, pick(0, 3));
            case "judge" -> {
                writeSolutions(i);
                call(i, name, pick(0, 3), pickSum());
            }
            case "undo" -> call(i, random.nextInt(3) == 0 ? name : "count", 2);
            case "count" -> call(i, name, pick(0, 7));
            case "status" -> call(i, name, pick(-1, 6));
            default -> call(i, name);
        }
    }

    /** Makes MAY what some SUMS let out, else fewest() would nearly always find none. */
    private void matchMay(int i) {
        if (model.now.sums.isEmpty() || random.nextInt(3) == 0) {
            return;
        }
        int lets = 0;
        for (int k = 0; k < 3; k++) {
            lets |= model.lets(random.nextInt(model.now.sums.size()), 20);
        }
        for (int p = 0; p < 10; p++) {
            call(i, "prisoner", p, 4, lets >> p & 1);
        }
        call(i, "fewest", 20);
    }

    /** Writes a sheet that is right, or nearly, and has it judged. */
    private void writeSolutions(int i) {
        if (model.now.sums.isEmpty()) {
            return;
        }
        int sum = random.nextInt(model.now.sums.size());
        Model.Sum s = model.now.sums.get(sum);
        int many = Model.solvers(s, s.m).size();
        call(i, "sheet", 0, 8, Math.max(0, many + random.nextInt(4) - 2));
        for (int k = 0; k < Math.min(many, 40); k++) {
            call(i, "write", 0, k, Model.solvers(s, s.m).get(k) + (random.nextInt(20) == 0 ? 1 : 0));
        }
        call(i, "judge", 0, sum);
    }

    private void compareAll() {
        for (int p = 0; p < 10; p++) {
            for (int what = 0; what <= 8; what++) {
                call(CALLS, "of", p, what);
            }
        }
        for (int what = 0; what <= 7; what++) {
            call(CALLS, "count", what);
        }
        for (int which = -1; which <= 6; which++) {
            call(CALLS, "status", which);
        }
    }

    private void call(int i, String name, int... a) {
        asked++;
        int want = answerOf(model, Model.class, name, a);
        int got = answerOf(door, SumDoor.class, name, a);
        Check.due(run + ", step " + i + ": " + name + java.util.Arrays.toString(a), want, got);
    }

    private static int answerOf(Object object, Class<?> of, String name, int[] a) {
        for (java.lang.reflect.Method method : of.getDeclaredMethods()) {
            if (method.getName().equals(name)) {
                Object[] boxed = new Object[method.getParameterCount()];
                for (int k = 0; k < boxed.length; k++) {
                    boxed[k] = a[k];
                }
                try {
                    return (Integer) method.invoke(object, boxed);
                } catch (ReflectiveOperationException e) {
                    throw new IllegalStateException(name + java.util.Arrays.toString(a), e);
                }
            }
        }
        throw new IllegalStateException(name);
    }
}

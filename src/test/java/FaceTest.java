import java.io.IOException;
import java.lang.reflect.Method;
import java.lang.reflect.Modifier;
import java.nio.file.Files;
import java.nio.file.Path;
import java.util.Set;
import java.util.TreeSet;
import java.util.regex.Matcher;
import java.util.regex.Pattern;

/** The public face of the document, and calls of any kind in any order. */
public final class FaceTest {
    private static final String[] FACE = {
        "ahead 2", "alms 1", "as 2", "both 2", "change 3", "choose 1", "copy 5", "could 2", "count 1", "day 0",
        "feed 2", "fewest 1", "hold 2", "image 0", "judge 2", "lets 2", "load 1", "minutes 1", "of 2", "out 0",
        "prisoner 3", "rich 1", "richFor 1", "school 2", "seed 1", "set 1", "sheet 3", "side 3", "skillFor 3", "solution 2",
        "solves 2", "status 1", "strict 1", "sum 2", "sumOf 2", "tear 0", "undo 0", "when 1", "wipe 0", "write 3",
        "wrongs 2"};
    private static final int[] ODD_ONES = {Integer.MIN_VALUE, -1, 0, 1, 2, 3, 4, 7, 8, 9, 10, 16, 40, 99, 100, 480,
        Integer.MAX_VALUE};

    public static void main(String[] args) throws IOException, ReflectiveOperationException {
        face();
        asWritten();
        anyCalls();
        Check.finish();
    }

    private static void face() {
        Set<String> seen = new TreeSet<>();
        for (Method method : SumDoor.class.getDeclaredMethods()) {
            if (!Modifier.isPrivate(method.getModifiers())) {
                seen.add(method.getName() + " " + method.getParameterCount());
                Check.due("public " + method, 1, method.getReturnType() == int.class ? method.getModifiers() : -1);
            }
        }
        Check.due("the face: " + seen, 1, seen.equals(new TreeSet<>(java.util.List.of(FACE))) ? 1 : 0);
        Check.due("no other field", 0, SumDoor.class.getFields().length);
        Check.due("one constructor", 1, SumDoor.class.getConstructors().length);
        Check.due("final", 1, Modifier.isFinal(SumDoor.class.getModifiers()) ? 1 : 0);
    }

    /** What the document writes out must stand so in the class, the names of the arguments too. */
    private static void asWritten() throws IOException {
        Path doc = Path.of("../shared/DOC.md");
        if (!Files.exists(doc)) {
            return;
        }
        String source = Files.readString(Path.of("src/main/java/SumDoor.java"));
        Matcher head = Pattern.compile("^    (public [^;{]*\\));$", Pattern.MULTILINE).matcher(Files.readString(doc));
        int heads = 0;
        while (head.find()) {
            heads++;
            Check.due("the face: " + head.group(1), 1, source.contains("\n    " + head.group(1) + " {\n") ? 1 : 0);
        }
        Check.due("the document's face: the calls and the constructor", FACE.length + 1, heads);
        groups(Files.readString(doc), source);
    }

    /** Ahead of which calls the interface says what. */
    private static void groups(String doc, String source) {
        Matcher group = Pattern.compile("^Ahead of the calls (.*) the interface says: (---- .*)[.]$", Pattern.MULTILINE)
                .matcher(doc);
        int grouped = 0;
        while (group.find()) {
            int at = source.indexOf("    // " + group.group(2) + "\n");
            int end = source.indexOf("    // ----", at + 1);
            for (String name : group.group(1).replace("`", "").split(", ")) {
                grouped++;
                int place = source.indexOf("    public int " + name + "(");
                Check.due(name + " stands under " + group.group(2), 1, at >= 0 && at < place && place < end ? 1 : 0);
                at = place;
            }
        }
        Check.due("calls under a heading", FACE.length, grouped);
    }

    /** Nothing may be thrown: each call of the face with odd arguments, on doors that are full of things. */
    private static void anyCalls() throws ReflectiveOperationException {
        long turn = 7;
        for (int run = 0; run < 60; run++) {
            SumDoor door = new SumDoor();
            for (int s = 0; s < run % 9; s++) {
                Check.sumFrom(door, "(x+" + s + ")*x%37=x/3", s % 7, 1 + s);
            }
            for (int i = 0; i < 4; i++) {
                door.sheet(i, 8 << i % 3, 40);
            }
            for (int call = 0; call < 400; call++) {
                turn = turn * 6364136223846793005L + 1442695040888963407L;
                int which = (int) (turn >>> 33) % FACE.length;
                turn = callOnce(door, FACE[which], turn);
            }
        }
        Check.due("nothing was thrown", 0, 0);
    }

    private static long callOnce(SumDoor door, String entry, long seed) throws ReflectiveOperationException {
        String[] parts = entry.split(" ");
        int many = Integer.parseInt(parts[1]);
        Class<?>[] types = new Class<?>[many];
        Object[] values = new Object[many];
        long turn = seed;
        for (int i = 0; i < many; i++) {
            turn = turn * 6364136223846793005L + 1442695040888963407L;
            types[i] = int.class;
            values[i] = ODD_ONES[(int) (turn >>> 33) % ODD_ONES.length];
        }
        SumDoor.class.getMethod(parts[0], types).invoke(door, values);
        return turn;
    }
}

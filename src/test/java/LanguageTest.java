import java.io.ByteArrayInputStream;
import java.io.DataInputStream;
import java.io.IOException;
import java.io.InputStream;
import java.lang.management.ManagementFactory;
import java.lang.reflect.Executable;
import java.lang.reflect.Field;
import java.lang.reflect.Method;
import java.lang.reflect.Modifier;
import java.nio.file.Files;
import java.nio.file.Path;
import java.util.ArrayList;
import java.util.HashSet;
import java.util.List;
import java.util.Set;
import java.util.regex.Matcher;
import java.util.regex.Pattern;

/** The rules of LANGUAGE.md that a program can look after; each line of a failure begins with the rule's number. */
public final class LanguageTest {
    private static final Path SOURCE = Path.of("src/main/java/SumDoor.java");
    private static final Set<Class<?>> CONSTANTS = Set.of(int.class, long.class, boolean.class, char.class, String.class,
            int[].class, long[].class, char[].class, byte[].class);
    /** What of the library the class uses; all of it stands in rule 4. */
    private static final Set<String> LIBRARY = Set.of("java/lang/Object.<init>", "java/util/Arrays.fill",
            "java/lang/System.arraycopy", "java/lang/Integer.bitCount", "java/lang/Math.min", "java/lang/Math.max");
    private static final int METHODREF = 10;

    public static void main(String[] args) throws IOException {
        String source = Files.readString(SOURCE);
        List<Class<?>> classes = new ArrayList<>(List.of(SumDoor.class.getDeclaredClasses()));
        for (Class<?> c : classes) {
            due("1: " + c + " is neither public nor protected", !isOpen(c.getModifiers()));
            due("2: " + c + " is static", Modifier.isStatic(c.getModifiers()));
        }
        classes.add(SumDoor.class);
        due("11: some twelve classes", classes.size() <= 12);
        for (Class<?> c : classes) {
            members(c);
            library(c);
        }
        names(classes);
        words(source);
        lengths(source);
        whatCallsMake();
        Check.finish();
    }

    private static void due(String rule, boolean holds) {
        Check.due("LANGUAGE.md " + rule, 1, holds ? 1 : 0);
    }

    private static boolean isOpen(int modifiers) {
        return Modifier.isPublic(modifiers) || Modifier.isProtected(modifiers);
    }

    private static void members(Class<?> c) {
        int fields = 0;
        for (Field field : c.getDeclaredFields()) {
            if (Modifier.isStatic(field.getModifiers())) {
                due("5: " + field + " is a constant", Modifier.isFinal(field.getModifiers()) && CONSTANTS.contains(field.getType()));
            } else {
                fields++;
            }
            due("1: " + field + " is private", Modifier.isPrivate(field.getModifiers()));
        }
        due("11: " + c + " has some twenty fields", fields <= 20);
        List<Executable> all = new ArrayList<>(List.of(c.getDeclaredMethods()));
        all.addAll(List.of(c.getDeclaredConstructors()));
        for (Executable one : all) {
            due("11: " + one + " takes at most seven", one.getParameterCount() <= 7);
            due("2: " + one + " is written out", !one.isSynthetic());
        }
    }

    private static void names(List<Class<?>> classes) {
        Set<String> open = new HashSet<>();
        for (Method method : SumDoor.class.getMethods()) {
            open.add(method.getName());
        }
        for (Class<?> c : classes) {
            for (Method method : c.getDeclaredMethods()) {
                if (Modifier.isPrivate(method.getModifiers())) {
                    due("1: " + method + " has a name of its own", !open.contains(method.getName()));
                }
            }
        }
    }

    private static void words(String source) {
        Matcher word = Pattern.compile("\\b(throws?|try|catch|synchronized|assert|\\w+Exact|Object|Map|Set|Random)\\b"
                + "|System\\.(?!arraycopy)|->|::|static \\{").matcher(source);
        while (word.find()) {
            due("2, 4, 5, 6 rule out " + word.group(), false);
        }
        Matcher imports = Pattern.compile("import ([^;]*);").matcher(source);
        while (imports.find()) {
            due("4: import " + imports.group(1), imports.group(1).equals("java.util.Arrays"));
        }
    }

    private static void lengths(String source) {
        Matcher method = Pattern.compile("^( +)(?:public|private)[^;=]*\\) \\{$(.*?)^\\1\\}$",
                Pattern.MULTILINE | Pattern.DOTALL).matcher(source);
        int seen = 0;
        while (method.find()) {
            seen++;
            long lines = method.group(2).lines().count();
            due("11: " + lines + " lines: " + method.group().lines().findFirst().orElse(""), lines <= 60);
        }
        due("11: methods were found", seen > 100);
    }

    /** The methods that a class calls stand in the constants of its file. */
    private static void library(Class<?> c) throws IOException {
        String[] texts = new String[65536];
        int[][] pairs = new int[65536][];
        int[] tags = new int[65536];
        DataInputStream in = fileOf(c);
        in.skipBytes(8);
        int many = in.readUnsignedShort();
        for (int i = 1; i < many; i++) {
            tags[i] = in.readUnsignedByte();
            switch (tags[i]) {
                case 1 -> texts[i] = in.readUTF();
                case 7, 8, 16, 19, 20 -> pairs[i] = new int[] {in.readUnsignedShort()};
                case 15 -> in.skipBytes(3);
                case 5, 6 -> {
                    in.skipBytes(8);
                    i++;
                }
                default -> pairs[i] = new int[] {in.readUnsignedShort(), in.readUnsignedShort()};
            }
        }
        for (int i = 1; i < many; i++) {
            if (tags[i] == METHODREF) {
                String owner = texts[pairs[pairs[i][0]][0]];
                String called = owner + "." + texts[pairs[pairs[i][1]][0]];
                due("4: " + c + " calls " + called, owner.startsWith("SumDoor") || LIBRARY.contains(called));
            }
        }
    }

    private static DataInputStream fileOf(Class<?> c) throws IOException {
        try (InputStream in = c.getResourceAsStream("/" + c.getName() + ".class")) {
            return new DataInputStream(new ByteArrayInputStream(in.readAllBytes()));
        }
    }

    /** All calls of a run live in one room: but for the constructor and sum() nothing is made. */
    private static void whatCallsMake() {
        com.sun.management.ThreadMXBean room = (com.sun.management.ThreadMXBean) ManagementFactory.getThreadMXBean();
        if (!room.isThreadAllocatedMemorySupported()) {
            return;
        }
        SumDoor door = new SumDoor();
        for (int s = 0; s < 8; s++) {
            Check.sumFrom(door, "(x+" + s + ")*x%37=x/3", s % 7, 1 + s);
        }
        everyCall(door, room.getCurrentThreadAllocatedBytes());
        long before = room.getCurrentThreadAllocatedBytes();
        long sum = 0;
        for (int i = 0; i < 6; i++) {
            sum += everyCall(door, i);
        }
        long made = room.getCurrentThreadAllocatedBytes() - before;
        due("12: calls make nothing (" + made + " bytes, " + sum + ")", made < 2000);
    }

    private static long everyCall(SumDoor d, long i) {
        int v = (int) (i & 7);
        long a = d.feed(v, 1) + d.wipe() + d.sum(0, 10) + d.sumOf(v, 3) + d.change(v, 0, v % 7) + d.side(v, 0, v)
                + d.solves(v, v) + d.solution(v, v) + d.both(v, 0) + d.strict(v);
        long b = d.prisoner(v, 1, 60 + v) + d.of(v, 6) + d.set(v) + d.rich(900 + v) + d.alms(v + 1) + d.school(v, 9);
        long c = d.minutes(9) + d.out() + d.ahead(200, 1) + d.when(v) + d.day();
        long e = d.lets(v, 200) + d.choose(200) + d.wrongs(v, 200) + d.fewest(100) + d.skillFor(v, v, 200)
                + d.richFor(100) + d.could(v, 480) + d.seed(v);
        long f = d.hold(v, v) + d.as(v, 0) + d.sheet(v % 4, 8, 40) + d.write(v % 4, v, v) + d.copy(0, 0, 0, 9, 20)
                + d.load(v % 4) + d.judge(v % 4, v);
        return a + b + c + e + f + d.image() + d.undo() + d.tear() + d.count(v) + d.status(v - 1);
    }
}

import java.io.IOException;
import java.lang.reflect.Method;
import java.lang.reflect.Modifier;
import java.nio.file.Files;
import java.nio.file.Path;
import java.util.List;
import java.util.regex.Matcher;
import java.util.regex.Pattern;
import java.util.stream.Stream;

/** README.md is true: its calls answer what it says, and it names every call and every test. */
public final class ReadmeTest {
    private static final Pattern CALL = Pattern.compile("^door\\.(\\w+)\\((.*?)\\);\\s*// (-?\\d+)\\b.*$");
    private static final Pattern NEW_DOOR = Pattern.compile("^SumDoor door = new SumDoor\\(\\);$");

    public static void main(String[] args) throws IOException, ReflectiveOperationException {
        List<String> lines = Files.readAllLines(Path.of("README.md"));
        answers(lines);
        names(String.join("\n", lines));
        Check.finish();
    }

    private static void answers(List<String> lines) throws ReflectiveOperationException {
        SumDoor door = new SumDoor();
        int asked = 0;
        for (String line : lines) {
            if (NEW_DOOR.matcher(line).matches()) {
                door = new SumDoor();
            }
            Matcher call = CALL.matcher(line);
            if (call.matches()) {
                asked++;
                Check.due("README: " + line, Integer.parseInt(call.group(3)), answer(door, call.group(1), call.group(2)));
            } else if (line.startsWith("door.")) {
                Check.due("README tells no answer: " + line, 1, 0);
            }
        }
        Check.due("README has calls", 1, asked > 0 ? 1 : 0);
    }

    private static int answer(SumDoor door, String name, String told) throws ReflectiveOperationException {
        String[] parts = told.isEmpty() ? new String[0] : told.split(", ");
        Class<?>[] types = new Class<?>[parts.length];
        Object[] values = new Object[parts.length];
        for (int i = 0; i < parts.length; i++) {
            types[i] = int.class;
            values[i] = Integer.decode(parts[i]);
        }
        return (Integer) SumDoor.class.getMethod(name, types).invoke(door, values);
    }

    private static void names(String readme) throws IOException {
        for (Method method : SumDoor.class.getDeclaredMethods()) {
            if (Modifier.isPublic(method.getModifiers())) {
                Check.due("README names " + method.getName(), 1, readme.contains("`" + method.getName() + "(") ? 1 : 0);
            }
        }
        try (Stream<Path> files = Files.list(Path.of("src/test/java"))) {
            for (Path file : files.toList()) {
                String name = file.getFileName().toString().replace(".java", "");
                if (name.endsWith("Test")) {
                    Check.due("README names " + name, 1, readme.contains("`" + name + "`") ? 1 : 0);
                }
            }
        }
        Check.due("README says how to run the tests", 1, readme.contains(".ci/run") ? 1 : 0);
    }
}

import java.lang.reflect.Method;
import java.lang.reflect.Modifier;
import java.nio.file.DirectoryStream;
import java.nio.file.Files;
import java.nio.file.Path;
import java.util.regex.Matcher;
import java.util.regex.Pattern;

/** The README's examples answer as it tells, and it names every call, every constant's value and every test. */
public final class ReadmeTest {
    private static final Path README = Path.of("README.md");
    private static final Path TESTS = Path.of("src/test/java");
    private static final String BEGIN = "VernierEncoder encoder = new VernierEncoder();";
    private static final Pattern CALL = Pattern.compile("encoder\\.(\\w+)\\((.*)\\); +// (-?\\d+)\\b.*");
    private static final Due due = new Due();

    public static void main(String[] args) throws Exception {
        examples();
        String readme = Files.readString(README);
        calls(readme);
        constants(readme);
        tests(readme);
        due.end();
    }

    private static void examples() throws Exception {
        VernierEncoder encoder = null;
        int examples = 0;
        for (String line : Files.readAllLines(README)) {
            if (line.equals(BEGIN)) {
                encoder = new VernierEncoder();
                examples++;
            } else if (line.startsWith("encoder.")) {
                Matcher call = CALL.matcher(line);
                boolean readable = call.matches();
                due.holds("this tells a call and its answer: " + line, readable && encoder != null);
                if (readable && encoder != null) {
                    due.is(line, answer(encoder, call.group(1), call.group(2)), Integer.parseInt(call.group(3)));
                }
            }
        }
        due.is("examples", examples, 2);
    }

    private static int answer(VernierEncoder encoder, String name, String told) throws Exception {
        String[] texts = told.isEmpty() ? new String[0] : told.split(", ");
        Class<?>[] types = new Class<?>[texts.length];
        Object[] arguments = new Object[texts.length];
        for (int index = 0; index < texts.length; index++) {
            types[index] = int.class;
            arguments[index] = texts[index].startsWith("'") ? (int) texts[index].charAt(1)
                    : Integer.parseInt(texts[index]);
        }
        return (Integer) VernierEncoder.class.getMethod(name, types).invoke(encoder, arguments);
    }

    private static void calls(String readme) {
        for (Method method : VernierEncoder.class.getDeclaredMethods()) {
            if (Modifier.isPublic(method.getModifiers())) {
                due.holds(method.getName() + " stands in the table of calls",
                        readme.contains("| `" + method.getName() + "("));
            }
        }
    }

    private static void constants(String readme) {
        due.holds("INVALID_ARGUMENT", readme.contains(VernierEncoder.INVALID_ARGUMENT + " `INVALID_ARGUMENT`"));
        due.holds("NOT_POSSIBLE", readme.contains(VernierEncoder.NOT_POSSIBLE + " `NOT_POSSIBLE`"));
        due.holds("LIMIT_REACHED", readme.contains(VernierEncoder.LIMIT_REACHED + " `LIMIT_REACHED`"));
        due.holds("NOT_FOUND", readme.contains(VernierEncoder.NOT_FOUND + " `NOT_FOUND`"));
    }

    private static void tests(String readme) throws Exception {
        try (DirectoryStream<Path> files = Files.newDirectoryStream(TESTS, "*Test.java")) {
            for (Path file : files) {
                String name = file.getFileName().toString().replace(".java", "");
                due.holds(name + " stands in the table of tests", readme.contains("| `" + name + "` |"));
            }
        }
    }
}

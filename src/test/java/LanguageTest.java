import java.nio.file.Files;
import java.nio.file.Path;
import java.util.HashSet;
import java.util.List;
import java.util.Set;
import java.util.regex.Matcher;
import java.util.regex.Pattern;

/** What LANGUAGE.md rules out and can be seen in the text of the program. */
public final class LanguageTest {
    private static final Path PROGRAM = Path.of("src/main/java/VernierEncoder.java");
    private static final String[] RULED_OUT = {"\\bpackage\\b", "\\bimport\\b", "\\bthrow\\b", "\\bthrows\\b",
        "\\btry\\b", "\\bcatch\\b", "\\bsynchronized\\b", "\\bassert\\b", "->", "::", "\\bstatic\\s*\\{",
        "\\bprotected\\b", "\\bSystem\\.(?!arraycopy)", "\\bRandom\\b", "\\bThread\\b", "Exact\\(",
        "\\.(equals|hashCode|toString)\\(", "\\bObject\\b", "[^\\x00-\\x7f]"};
    private static final Set<String> ALLOWED = Set.of("Math", "Integer", "Long", "String", "StringBuilder",
        "ArrayList", "List", "Arrays", "System", "Iterator", "Iterable", "Comparable");
    private static final Pattern OWN_CLASS = Pattern.compile("\\b(?:class|enum|record|interface) (\\w+)");
    private static final Pattern CLASS_NAME = Pattern.compile("\\b[A-Z]\\w*[a-z]\\w*\\b");
    private static final Due due = new Due();

    public static void main(String[] args) throws Exception {
        List<String> lines = Files.readAllLines(PROGRAM);
        for (String ruledOut : RULED_OUT) {
            Pattern pattern = Pattern.compile(ruledOut);
            for (int line = 0; line < lines.size(); line++) {
                due.holds("no " + ruledOut + " in line " + (line + 1), !pattern.matcher(lines.get(line)).find());
            }
        }
        libraryIsAllowed(lines);
        staticsAreConstants(lines);
        methodsAreShort(lines);
        classesAreFew(lines);
        due.end();
    }

    /** A name with a capital and a small letter is that of a class: one of the file's own, or an allowed one. */
    private static void libraryIsAllowed(List<String> lines) {
        Set<String> allowed = new HashSet<>(ALLOWED);
        for (String line : lines) {
            Matcher own = OWN_CLASS.matcher(line);
            if (own.find()) {
                allowed.add(own.group(1));
            }
        }
        for (int line = 0; line < lines.size(); line++) {
            Matcher name = CLASS_NAME.matcher(lines.get(line).replaceAll("//.*|/\\*\\*.*", ""));
            while (name.find()) {
                due.holds(name.group() + " in line " + (line + 1) + " is allowed", allowed.contains(name.group()));
            }
        }
    }

    private static void staticsAreConstants(List<String> lines) {
        for (int line = 0; line < lines.size(); line++) {
            if (lines.get(line).matches("\\s*(private|public)? ?static [^(]*=.*;")) {
                due.holds("the static field in line " + (line + 1) + " is a constant",
                        lines.get(line).matches(" {4}(private|public) static final int(\\[\\])? [A-Z_]+ = .*;"));
            }
        }
    }

    private static void methodsAreShort(List<String> lines) {
        int start = 0;
        for (int line = 0; line < lines.size(); line++) {
            if (lines.get(line).matches("\\s+(private|public) [^=;]*\\) \\{")) {
                start = line;
            }
            if (lines.get(line).matches(" {4,8}\\}")) {
                due.holds("the method in line " + (start + 1) + " is short", line - start < 60);
                start = line;
            }
        }
    }

    private static void classesAreFew(List<String> lines) {
        long classes = lines.stream().filter(line -> line.matches("\\s*(public|private) .*\\b(class|enum) .*")).count();
        due.holds("the classes are few: " + classes, classes >= 1 && classes <= 12);
    }
}

import java.nio.file.Files;
import java.nio.file.Path;
import java.util.List;
import java.util.regex.Pattern;

/** What LANGUAGE.md rules out and can be seen in the text of the program. */
public final class LanguageTest {
    private static final Path PROGRAM = Path.of("src/main/java/VernierEncoder.java");
    private static final String[] RULED_OUT = {"\\bpackage\\b", "\\bimport\\b", "\\bthrow\\b", "\\bthrows\\b",
        "\\btry\\b", "\\bcatch\\b", "\\bsynchronized\\b", "\\bassert\\b", "->", "::", "\\bstatic\\s*\\{",
        "\\bprotected\\b", "\\bSystem\\.(?!arraycopy)", "\\bRandom\\b", "\\bThread\\b", "Exact\\(",
        "\\.(equals|hashCode|toString)\\(", "\\bObject\\b", "[^\\x00-\\x7f]"};
    private static final Due due = new Due();

    public static void main(String[] args) throws Exception {
        List<String> lines = Files.readAllLines(PROGRAM);
        for (String ruledOut : RULED_OUT) {
            Pattern pattern = Pattern.compile(ruledOut);
            for (int line = 0; line < lines.size(); line++) {
                due.holds("no " + ruledOut + " in line " + (line + 1), !pattern.matcher(lines.get(line)).find());
            }
        }
        methodsAreShort(lines);
        classesAreFew(lines);
        due.end();
    }

    private static void methodsAreShort(List<String> lines) {
        int start = 0;
        for (int line = 0; line < lines.size(); line++) {
            if (lines.get(line).matches("\\s+(private|public) [^=;]*\\) \\{")) {
                start = line;
            }
            if (lines.get(line).matches(" {4,8}\\}")) {
                due.holds("the method in line " + (start + 1) + " is short", line - start < 60);
                start = line;
            }
        }
    }

    private static void classesAreFew(List<String> lines) {
        long classes = lines.stream().filter(line -> line.matches("\\s*(public|private) .*\\b(class|enum) .*")).count();
        due.holds("the classes are few: " + classes, classes >= 1 && classes <= 12);
    }
}

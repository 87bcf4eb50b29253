import java.io.IOException;
import java.nio.file.Files;
import java.nio.file.Path;
import java.util.List;
import java.util.regex.Matcher;
import java.util.regex.Pattern;

/** What of the rules of ../shared/LANGUAGE.md can be seen in the program's lines. */
public final class LanguageTest {
    private static final List<String> LIBRARY = List.of("System.arraycopy", "Math.max", "Math.min", "Math.abs",
            "Math.floorMod");
    private static final String[] FORBIDDEN = {
        "->", "::", "\\bcatch\\b", "\\bfinally\\b", "\\btry\\b", "\\bsynchronized\\b", "\\bassert\\b", "\\bvar\\b",
        "\\bwhile \\(true\\)", "for \\(;;\\)", "\\bequals\\b", "\\bhashCode\\b", "\\btoString\\b", "\\bdouble\\b",
        "\\bfloat\\b", "\\bInteger\\b", "\\bLong\\b", "\\bArrays\\b", "\\bRandom\\b", "\\bprintln\\b"};
    private static int wrong = 0;

    public static void main(String[] args) throws IOException {
        List<String> lines = Files.readAllLines(Path.of("src/main/java/ColdMiddle.java"));
        int method = 0;
        String endOfMethod = "";
        boolean mayMake = true;
        for (int i = 0; i < lines.size(); i++) {
            String line = lines.get(i).replaceAll("^\\s*(/\\*\\*|\\*|//).*", "").replaceAll("\"[^\"]*\"", "\"\"");
            check(line.chars().allMatch(c -> c >= 32 && c < 127), i, "a sign that is none of 32 to 126");
            check(!line.contains("import ") || line.equals("import java.util.NoSuchElementException;"), i, "an import");
            for (String forbidden : FORBIDDEN) {
                check(!Pattern.compile(forbidden).matcher(line).find(), i, forbidden);
            }
            Matcher calls = Pattern.compile("\\b(Math|System)\\.\\w+").matcher(line);
            while (calls.find()) {
                check(LIBRARY.contains(calls.group()), i, calls.group());
            }
            check(!line.contains("throw new ") || line.contains("throw new NoSuchElementException()"), i, "a throw");
            if (line.matches("(    ){1,2}(?!(for|if|while|switch|do) )\\w.*\\) (throws \\w+ )?\\{")) {
                method = i;
                endOfMethod = line.replaceAll("\\S.*", "}");
                mayMake = line.matches("\\s+(public )?[A-Z]\\w*\\(.*");
            } else if (line.equals(endOfMethod)) {
                mayMake = true;
            }
            // What a run makes is counted: rows are made with the object that has them, and used again.
            check(!line.contains("new ") || mayMake || line.contains("throw new "), i, "it is made in a call");
            check(!line.matches("(    ){1,2}\\}") || i - method <= 60, i, "a method of more than sixty lines");
        }
        if (wrong > 0) {
            System.exit(1);
        }
    }

    private static void check(boolean is, int line, String what) {
        if (!is) {
            wrong++;
            System.out.println("line " + (line + 1) + ": " + what);
        }
    }
}

import java.io.IOException;
import java.lang.reflect.InvocationTargetException;
import java.lang.reflect.Method;
import java.nio.charset.StandardCharsets;
import java.nio.file.Files;
import java.nio.file.Path;
import java.util.Arrays;
import java.util.List;
import java.util.Set;
import java.util.TreeSet;
import java.util.regex.Matcher;
import java.util.regex.Pattern;
import javax.tools.JavaCompiler;
import javax.tools.ToolProvider;

/** What README.md shows as a use of the class is so: each of its calls is made, each answer that it tells is due. */
public final class ReadmeTest {
    private static final String MADE = "ColdMiddle x = new ColdMiddle();";
    private static final Pattern CALL = Pattern.compile("x\\.(\\w+)\\((.*)\\);\\s+// (\\S+?)(?:: (.*))?");
    private static final int MOST_CALLS = 512;

    private static int wrong = 0;
    private static ColdMiddle x = null;
    private static int calls = 0;
    private static final Set<String> SHOWN = new TreeSet<>();

    public static void main(String[] args) throws IOException {
        List<String> lines = Files.readAllLines(Path.of("README.md"), StandardCharsets.UTF_8);
        StringBuilder shown = new StringBuilder();
        boolean isJava = false;
        for (int i = 0; i < lines.size(); i++) {
            String line = lines.get(i).strip();
            if (line.startsWith("```")) {
                isJava = line.equals("```java");
            } else if (isJava && !line.isEmpty()) {
                use(i + 1, line);
                shown.append(line).append('\n');
            }
        }
        for (Method method : ColdMiddle.class.getMethods()) {
            if (method.getDeclaringClass() == ColdMiddle.class && !SHOWN.contains(method.getName())) {
                tell(0, "it does not show " + method.getName());
            }
        }
        compiles(shown.toString());
        namesTests(lines);
        if (wrong > 0) {
            System.exit(1);
        }
    }

    private static void tell(int line, String what) {
        wrong++;
        System.out.println("README.md" + (line > 0 ? ", line " + line : "") + ": " + what);
    }

    private static void use(int line, String text) {
        Matcher call = CALL.matcher(text);
        if (text.equals(MADE)) {
            x = new ColdMiddle();
            calls = 0;
        } else if (call.matches() && x != null) {
            calls++;
            String[] words = call.group(2).isEmpty() ? new String[0] : call.group(2).split(", ");
            String answer = answer(call.group(1), words);
            if (!answer.equals(call.group(3))) {
                tell(line, text + " answered " + answer);
            }
            if (call.group(1).equals("feed") && !bytes(words).equals(call.group(4))) {
                tell(line, text + " feeds " + bytes(words));
            }
            if (calls > MOST_CALLS) {
                tell(line, "a call more than an object is used for");
            }
            SHOWN.add(call.group(1));
        } else {
            tell(line, "neither a new object nor a call with its answer: " + text);
        }
    }

    private static String answer(String name, String[] words) {
        for (Method method : ColdMiddle.class.getMethods()) {
            if (method.getName().equals(name) && method.getParameterCount() == words.length) {
                Object[] given = new Object[words.length];
                for (int i = 0; i < words.length; i++) {
                    given[i] = value(words[i], method.getParameterTypes()[i]);
                }
                try {
                    return named(method.invoke(x, given));
                } catch (InvocationTargetException e) {
                    return e.getCause().getClass().getSimpleName();
                } catch (IllegalAccessException e) {
                    return "nothing: it is not public";
                }
            }
        }
        return "nothing: there is no such call";
    }

    private static Object value(String word, Class<?> type) {
        if (type == boolean.class) {
            return word.equals("true");
        }
        if (type == long.class) {
            return Long.decode(word.replace("L", ""));
        }
        // A hexadecimal number of Java may stand for one below 0.
        return word.equals("ColdMiddle.NONE") ? ColdMiddle.NONE : Long.decode(word).intValue();
    }

    private static String named(Object answer) {
        if (answer.equals(ColdMiddle.NONE)) {
            return "NONE";
        }
        return answer.equals(ColdMiddle.HIDDEN) ? "HIDDEN" : answer.toString();
    }

    private static String bytes(String[] numbers) {
        StringBuilder s = new StringBuilder();
        for (String number : numbers) {
            int four = Long.decode(number).intValue();
            for (int shift = 24; shift >= 0; shift -= 8) {
                if ((four >>> shift & 255) != 0) {
                    s.append((char) (four >>> shift & 255));
                }
            }
        }
        return s.toString();
    }

    /** What is shown is Java as it stands there. */
    private static void compiles(String shown) throws IOException {
        Path place = Files.createTempDirectory("readme");
        Path file = place.resolve("Shown.java");
        Files.writeString(file, "final class Shown {\n    void use() {\n" + shown + "    }\n}\n");
        JavaCompiler compiler = ToolProvider.getSystemJavaCompiler();
        if (compiler.run(null, null, null, "-cp", System.getProperty("java.class.path"), "-d", place.toString(),
                file.toString()) != 0) {
            tell(0, "what it shows does not compile");
        }
        String[] made = place.toFile().list();
        for (String name : made == null ? new String[0] : made) {
            Files.delete(place.resolve(name));
        }
        Files.delete(place);
    }

    /** README.md tells how the tests are run, and of each what it is for. */
    private static void namesTests(List<String> lines) {
        String all = String.join("\n", lines);
        if (!all.contains("\n    .ci/run\n")) {
            tell(0, "it does not tell how the tests are run");
        }
        String[] files = Path.of("src/test/java").toFile().list();
        if (files == null) {
            tell(0, "there are no tests of its own");
            return;
        }
        Arrays.sort(files);
        for (String file : files) {
            if (file.endsWith("Test.java") && !all.contains("`" + file.replace(".java", "") + "`")) {
                tell(0, "it does not name " + file);
            }
        }
    }
}

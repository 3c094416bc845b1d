import java.io.File;
import java.io.IOException;
import java.lang.reflect.Method;
import java.lang.reflect.Modifier;
import java.nio.file.Files;
import java.nio.file.Path;
import java.util.regex.Matcher;
import java.util.regex.Pattern;

/** What README.md tells: the answers of its calls, and that it names each call of the face and each test. */
public final class ReadmeTest {
    private static final Pattern CALL = Pattern.compile("^x\\.(\\w+\\([^)]*\\)); +// (-?\\d+): .*$");
    private static final Pattern TEXT = Pattern.compile("^for \\(byte b : \"([^\"]*)\"\\.getBytes\\(\\)\\) x\\.feed\\(b, 1\\);$");

    public static void main(String[] args) throws IOException {
        String page = Files.readString(Path.of("README.md"));
        answers(page);
        names(page);
        Run.end();
    }

    private static void answers(String page) {
        Run r = new Run("README.md");
        for (String line : page.split("\n")) {
            Matcher call = CALL.matcher(line);
            Matcher text = TEXT.matcher(line);
            if (call.matches()) {
                r.due(call.group(1), Long.parseLong(call.group(2)));
            } else if (text.matches()) {
                r.feed(text.group(1));
            } else {
                r.same("a call without an answer: " + line, line.startsWith("x.") || line.startsWith("for ") ? 1 : 0, 0);
            }
        }
    }

    private static void names(String page) {
        Run r = new Run("README.md");
        for (Method m : KnivesLaid.class.getDeclaredMethods()) {
            if (Modifier.isPublic(m.getModifiers())) {
                r.same("names " + m.getName(), page.contains("`" + m.getName() + "`") ? 1 : 0, 1);
            }
        }
        for (String file : new File("src/test/java").list()) {
            if (file.endsWith("Test.java")) {
                String test = file.substring(0, file.length() - ".java".length());
                r.same("names " + test, Pattern.compile("\\b" + test + "\\b").matcher(page).find() ? 1 : 0, 1);
            }
        }
    }
}

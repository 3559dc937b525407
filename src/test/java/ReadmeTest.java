import java.io.IOException;
import java.lang.reflect.InvocationTargetException;
import java.lang.reflect.Method;
import java.lang.reflect.Modifier;
import java.nio.file.Files;
import java.nio.file.Path;
import java.util.ArrayList;
import java.util.List;
import java.util.Set;
import java.util.TreeSet;
import java.util.regex.Matcher;
import java.util.regex.Pattern;

/**
 * The calls that README.md shows answer as README.md says. The page itself is read, so that neither
 * can change without the other; a line of its code that is not understood is a fault too.
 */
public final class ReadmeTest {
    private static final Path PAGE = Path.of("README.md");
    private static final String NEW_OBJECT = "OddNotice x = new OddNotice();";
    private static final Pattern CALL = Pattern.compile("x\\.(\\w+)\\(([^()]*)\\);\\s*");
    private static final Pattern SIGN = Pattern.compile("'(.)'");

    private static final Set<String> shown = new TreeSet<>();
    private static int answers = 0;
    private static int wrong = 0;
    private static Watched object;

    public static void main(String[] args) throws IOException {
        List<String> lines = Files.readAllLines(PAGE);
        checkCode(lines);
        checkFaceIsShown();
        checkTestsAreNamed(String.join("\n", lines));
        if (answers == 0) {
            fault("no call with an answer stands on the page");
        }
        System.out.println(answers + " answers of README.md, " + wrong + " faults");
        if (wrong != 0) {
            System.exit(1);
        }
    }

    private static void fault(String text) {
        wrong++;
        System.out.println("README.md: " + text);
    }

    private static void checkCode(List<String> lines) {
        boolean inCode = false;
        for (int i = 0; i < lines.size(); i++) {
            String line = lines.get(i);
            if (line.startsWith("```")) {
                inCode = line.equals("```java");
                object = null;
            } else if (inCode) {
                checkLine("line " + (i + 1), line);
            }
        }
        if (inCode) {
            fault("the last code has no end");
        }
    }

    private static void checkLine(String where, String line) {
        if (line.equals(NEW_OBJECT)) {
            object = new Watched();
            return;
        }
        int comment = line.indexOf("//");
        if (object == null || comment < 0) {
            fault(where + " is not understood: " + line);
            return;
        }
        List<String> got = answersOf(where, line.substring(0, comment));
        List<String> said = List.of(line.substring(comment + 2).split(":")[0].trim().split(", "));
        answers += said.size();
        if (!got.equals(said)) {
            fault(where + " says " + said + ", answered is " + got + ": " + line);
        }
    }

    private static List<String> answersOf(String where, String calls) {
        List<String> got = new ArrayList<>();
        Matcher call = CALL.matcher(calls);
        int end = 0;
        while (call.find() && call.start() == end) {
            end = call.end();
            got.add(answerOf(call.group(1), call.group(2)));
        }
        if (end != calls.length()) {
            fault(where + " is not understood from here: " + calls.substring(end));
        }
        return got;
    }

    private static String answerOf(String name, String given) {
        List<Object> values = new ArrayList<>();
        for (String one : given.isEmpty() ? new String[0] : given.split(", ")) {
            values.add(valueOf(one));
        }
        for (Method method : Watched.class.getDeclaredMethods()) {
            if (method.getName().equals(name) && Modifier.isPublic(method.getModifiers())) {
                shown.add(name);
                return called(method, values);
            }
        }
        return "there is no method " + name;
    }

    private static Object valueOf(String text) {
        Matcher sign = SIGN.matcher(text);
        if (sign.matches()) {
            return (int) sign.group(1).charAt(0);
        }
        if (text.equals("true") || text.equals("false")) {
            return text.equals("true");
        }
        return text.matches("-?[0-9]{1,9}") ? (Object) Integer.parseInt(text) : text;
    }

    private static String called(Method method, List<Object> values) {
        try {
            return String.valueOf(method.invoke(object, values.toArray()));
        } catch (InvocationTargetException e) {
            return "throws " + e.getCause().getClass().getSimpleName();
        } catch (IllegalAccessException | IllegalArgumentException e) {
            return "it can't be called with " + values;
        }
    }

    private static void checkFaceIsShown() {
        for (Method method : OddNotice.class.getDeclaredMethods()) {
            if (Modifier.isPublic(method.getModifiers()) && !shown.contains(method.getName())) {
                fault("no call of " + method.getName() + " is shown");
            }
        }
    }

    private static void checkTestsAreNamed(String page) throws IOException {
        for (String folder : List.of("src/test/java", "src/test/support")) {
            try (var files = Files.list(Path.of(folder))) {
                for (Path file : files.sorted().toList()) {
                    String name = file.getFileName().toString().replace(".java", "");
                    if (!page.contains("`" + name + "`")) {
                        fault("the test " + name + " is not named");
                    }
                }
            }
        }
    }
}

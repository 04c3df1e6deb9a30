import java.io.File;
import java.io.IOException;
import java.lang.reflect.InvocationTargetException;
import java.lang.reflect.Method;
import java.lang.reflect.Modifier;
import java.nio.file.Files;
import java.nio.file.Path;
import java.util.HashMap;
import java.util.List;
import java.util.Map;
import java.util.regex.Matcher;
import java.util.regex.Pattern;

/** What README.md tells is so: its examples answer what their comments say, and no call or test is left out. */
public final class ReadmeTest {
    private static final Path README = Path.of("README.md");
    private static final File TESTS = new File("src/test/java");

    private static final Pattern NEW_DESK = Pattern.compile("DispatchDesk desk = new DispatchDesk\\(\\);");
    private static final Pattern CALL = Pattern.compile("(?:int (\\w+) = )?desk\\.(\\w+)\\((.*?)\\);\\s*// (.*)");
    private static final Pattern ANSWER = Pattern.compile("(-?\\d+|true|false)(:.*)?");

    private static DispatchDesk desk = null;
    private static final Map<String, String> NAMES = new HashMap<>();

    public static void main(String[] args) throws IOException {
        examples(Files.readAllLines(README));
        String text = Files.readString(README);
        for (Method call : DispatchDesk.class.getDeclaredMethods()) {
            if (Modifier.isPublic(call.getModifiers())) {
                Due.yes("README.md tells of " + call.getName(), text.contains("| `" + call.getName() + "("));
            }
        }
        for (String file : TESTS.list()) {
            if (file.endsWith("Test.java")) {
                String name = file.substring(0, file.length() - ".java".length());
                Due.yes("README.md tells of " + name, text.contains("| `" + name + "` |"));
            }
        }
        Due.end();
    }

    private static void examples(List<String> lines) {
        boolean inside = false;
        int seen = 0;
        for (String line : lines) {
            if (line.startsWith("```")) {
                inside = line.equals("```java");
            } else if (inside && !line.isEmpty()) {
                follow(line);
                seen++;
            }
        }
        Due.yes("README.md has examples", seen > 0);
    }

    private static void follow(String line) {
        if (NEW_DESK.matcher(line).matches()) {
            desk = new DispatchDesk();
            NAMES.clear();
            return;
        }
        Matcher call = CALL.matcher(line);
        if (desk == null || !call.matches()) {
            Due.compare(line, "a call with a comment", "something else");
            return;
        }
        String got = answer(call.group(2), call.group(3));
        if (call.group(1) != null) {
            NAMES.put(call.group(1), got);
        }
        Matcher told = ANSWER.matcher(call.group(4));
        Due.compare(line, told.matches() ? told.group(1) : got, got);
        Due.no(line + " is refused", got.endsWith("Exception"));
    }

    private static String answer(String name, String list) {
        String[] words = list.isEmpty() ? new String[0] : list.split(", ");
        Object[] given = new Object[words.length];
        for (int k = 0; k < words.length; k++) {
            String word = NAMES.getOrDefault(words[k], words[k]);
            given[k] = word.equals("true") || word.equals("false") ? (Object) Boolean.valueOf(word) : Integer.valueOf(word);
        }
        for (Method call : DispatchDesk.class.getMethods()) {
            if (call.getName().equals(name) && call.getParameterCount() == given.length) {
                return outcome(call, given);
            }
        }
        return "no such call";
    }

    private static String outcome(Method call, Object[] given) {
        try {
            return String.valueOf(call.invoke(desk, given));
        } catch (InvocationTargetException e) {
            return e.getCause().getClass().getSimpleName();
        } catch (IllegalAccessException e) {
            return "not open";
        }
    }
}

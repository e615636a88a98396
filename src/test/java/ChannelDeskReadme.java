import java.io.IOException;
import java.lang.reflect.InvocationTargetException;
import java.lang.reflect.Method;
import java.lang.reflect.Modifier;
import java.nio.file.Files;
import java.nio.file.Path;
import java.util.HashMap;
import java.util.List;
import java.util.Map;
import java.util.Set;
import java.util.TreeSet;
import java.util.regex.Matcher;
import java.util.regex.Pattern;

/**
 * The calls that README.md shows, read from it so that the two can't part: each must answer the number
 * behind it. It is run from the project's folder, as .ci/run does.
 */
public final class ChannelDeskReadme {
    private static final String NEW_DESK = "ChannelDesk desk = new ChannelDesk();";
    private static final Pattern CALL =
            Pattern.compile("(?:int (\\w+) = )?desk\\.(\\w+)\\(([^)]*)\\); +// (-?\\d+)(?:: .*)?");
    private static final int MOST_CALLS = 512;

    private static int wrong = 0;

    private final Set<String> shown = new TreeSet<>();
    private ChannelDesk desk;
    private Map<String, Integer> names;
    private int calls;

    public static void main(String[] args) throws IOException {
        Path readme = Path.of("README.md");
        if (Files.isRegularFile(readme)) {
            ChannelDeskReadme reader = new ChannelDeskReadme();
            reader.read(Files.readAllLines(readme));
            reader.dueAllMethodsShown();
        } else {
            tell(readme.toAbsolutePath() + " is not there: run the test from the project's folder");
        }
        System.out.println(wrong == 0 ? "all answers are as due" : wrong + " things are not as due");
        if (wrong != 0) {
            System.exit(1);
        }
    }

    private static void tell(String what) {
        wrong++;
        System.out.println(what);
    }

    private void read(List<String> lines) {
        boolean inJava = false;
        for (int i = 0; i < lines.size(); i++) {
            String line = lines.get(i).strip();
            if (line.startsWith("```")) {
                inJava = line.equals("```java");
                desk = null;
            } else if (inJava && !line.isEmpty()) {
                readJava("README.md, line " + (i + 1) + ": ", line);
            }
        }
    }

    private void readJava(String where, String line) {
        if (line.equals(NEW_DESK)) {
            desk = new ChannelDesk();
            names = new HashMap<>();
            calls = 0;
            return;
        }
        Matcher call = CALL.matcher(line);
        if (desk == null || !call.matches()) {
            tell(where + "is neither a new desk nor a call of one with its answer: " + line);
            return;
        }
        calls++;
        if (calls > MOST_CALLS) {
            tell(where + "the desk is asked more than " + MOST_CALLS + " calls");
        }
        dueAnswer(where, call.group(1), call.group(2), call.group(3), Integer.parseInt(call.group(4)));
    }

    private void dueAnswer(String where, String name, String method, String with, int want) {
        String text = where + method + "(" + with + ")";
        try {
            int answer = answerOf(method, with.isEmpty() ? new String[0] : with.split(", "));
            if (answer != want) {
                tell(text + " answered " + answer + ", README.md says " + want);
            }
            if (name != null) {
                names.put(name, answer);
            }
        } catch (InvocationTargetException thrown) {
            tell(text + " threw " + thrown.getCause() + ", README.md says " + want);
        } catch (ReflectiveOperationException | IllegalArgumentException unfit) {
            tell(text + " is no call of the class: " + unfit);
        }
    }

    private int answerOf(String name, String[] with) throws ReflectiveOperationException {
        for (Method method : ChannelDesk.class.getMethods()) {
            if (method.getName().equals(name) && method.getParameterCount() == with.length) {
                Object[] values = new Object[with.length];
                for (int i = 0; i < with.length; i++) {
                    values[i] = valueOf(with[i]);
                }
                shown.add(name);
                return (Integer) method.invoke(desk, values);
            }
        }
        throw new NoSuchMethodException(name + " with " + with.length + " arguments");
    }

    private Object valueOf(String text) {
        if (text.equals("true") || text.equals("false")) {
            return text.equals("true");
        }
        return names.containsKey(text) ? names.get(text) : Integer.valueOf(text);
    }

    private void dueAllMethodsShown() {
        for (Method method : ChannelDesk.class.getDeclaredMethods()) {
            if (Modifier.isPublic(method.getModifiers()) && !shown.contains(method.getName())) {
                tell("README.md shows no call of " + method.getName());
            }
        }
    }
}

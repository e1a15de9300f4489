import java.io.IOException;
import java.io.UncheckedIOException;
import java.lang.reflect.InvocationTargetException;
import java.lang.reflect.Method;
import java.lang.reflect.Modifier;
import java.nio.file.Files;
import java.nio.file.Path;
import java.util.ArrayList;
import java.util.List;
import java.util.Set;
import java.util.TreeSet;
import java.util.regex.Matcher;
import java.util.regex.Pattern;

/** What README.md says of the class: its example answers as it says, and its table is the face. */
final class ReadmeTests {
    /** Where README.md stands; AllTests sets it. */
    static String readme;

    private static final Pattern CALL = Pattern.compile(
            "drive\\.(\\w+)\\(([^)]*)\\);\\s+// (-?\\d+|throws \\w+)(:.*)?");
    private static final Pattern TYPED = Pattern.compile(
            "for \\(char sign : \"([^\"]*)\"\\.toCharArray\\(\\)\\) drive\\.type\\(sign\\);");
    private static final Pattern ROW = Pattern.compile("\\| `(\\w+)\\(([^)]*)\\)` \\|[^|]*\\|([^|]*)\\|");

    private ReadmeTests() {
    }

    private static List<String> lines() {
        try {
            return Files.readAllLines(Path.of(readme));
        } catch (IOException e) {
            throw new UncheckedIOException(e);
        }
    }

    private static List<String> example() {
        List<String> lines = lines();
        int start = lines.indexOf("```java") + 1;
        return lines.subList(start, start + lines.subList(start, lines.size()).indexOf("```"));
    }

    private static int argument(String written) {
        return written.startsWith("'") ? written.charAt(1) : Integer.parseInt(written);
    }

    private static Object[] arguments(String written) {
        List<Object> arguments = new ArrayList<>();
        for (String argument : written.isEmpty() ? new String[0] : written.split(", ")) {
            arguments.add(argument(argument));
        }
        return arguments.toArray();
    }

    private static Method methodOf(String name, int parameters) {
        for (Method method : WokenDrive.class.getMethods()) {
            if (method.getName().equals(name) && method.getParameterCount() == parameters) {
                return method;
            }
        }
        throw new AssertionError("there is no " + name + " with " + parameters + " parameters");
    }

    private static String answerOf(WokenDrive drive, String name, String written) throws IllegalAccessException {
        Object[] arguments = arguments(written);
        try {
            return methodOf(name, arguments.length).invoke(drive, arguments).toString();
        } catch (InvocationTargetException e) {
            return "throws " + e.getCause().getClass().getSimpleName();
        }
    }

    /** "Behind each call below stands what it answers" */
    static void promiseExampleAnswersAsItSays() throws IllegalAccessException {
        List<String> lines = example();
        Check.holds("the first line makes the object", lines.get(0).equals("WokenDrive drive = new WokenDrive();"));
        WokenDrive drive = new WokenDrive();
        for (String line : lines.subList(1, lines.size())) {
            Matcher call = CALL.matcher(line);
            Matcher typed = TYPED.matcher(line);
            if (call.matches()) {
                String answer = answerOf(drive, call.group(1), call.group(2));
                Check.holds(line + " answered " + answer + "; what it says", answer.equals(call.group(3)));
            } else if (typed.matches()) {
                Check.type(drive, typed.group(1));
            } else {
                Check.holds("'" + line + "' is a line of an example", line.isBlank());
            }
        }
    }

    /** "All calls, with what they throw in the order in which it is looked for" */
    static void promiseTableIsTheFace() {
        Set<String> told = new TreeSet<>();
        for (String line : lines()) {
            Matcher row = ROW.matcher(line);
            if (row.matches()) {
                told.add(row.group(1));
                Method method = methodOf(row.group(1), arguments(row.group(2).replaceAll("\\w+", "0")).length);
                List<String> exceptions = new ArrayList<>();
                for (Class<?> exception : method.getExceptionTypes()) {
                    exceptions.add("`" + exception.getSimpleName() + "`");
                }
                String due = exceptions.isEmpty() ? "nothing" : String.join(", ", exceptions);
                Check.holds("what " + row.group(1) + " throws is " + due, row.group(3).strip().equals(due));
            }
        }
        Set<String> due = new TreeSet<>();
        for (Method method : WokenDrive.class.getDeclaredMethods()) {
            if (!method.isSynthetic() && Modifier.isPublic(method.getModifiers())) {
                due.add(method.getName());
            }
        }
        Check.holds("the calls " + told + " are those of the face", told.equals(due));
    }

    /** "What stands where": what is named there, stands there. */
    static void promiseFilesThatAreNamedStandThere() {
        Path root = Path.of(readme).toAbsolutePath().getParent();
        Matcher named = Pattern.compile("`((src|\\.ci)/[\\w/.]+)`").matcher(String.join("\n", lines()));
        int files = 0;
        while (named.find()) {
            Check.holds(named.group(1) + " stands there", Files.exists(root.resolve(named.group(1))));
            files++;
        }
        Check.holds("some files are named", files > 5);
    }
}

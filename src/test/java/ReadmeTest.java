import java.io.IOException;
import java.lang.reflect.Method;
import java.lang.reflect.Modifier;
import java.nio.file.Files;
import java.nio.file.Path;
import java.util.List;
import java.util.regex.Matcher;
import java.util.regex.Pattern;

/** What README.md says of the class: its example answers as it tells, and no call is left out. */
public final class ReadmeTest {
    private static final Path README = Path.of("README.md");
    private static final String BEGINNING = "    Triggerwright scope = new Triggerwright();";
    private static final Pattern CALL = Pattern.compile("    scope\\.(\\w+)\\((.*)\\); +// (.+)");
    private static final Pattern ANSWER = Pattern.compile("answers (-?[0-9.]+|true|false)(,.*)?");

    public static void main(String[] args) throws IOException, ReflectiveOperationException {
        List<String> lines = Files.readAllLines(README);
        makeExample(lines);
        nameAllCalls(String.join("\n", lines));
        Check.finish("ReadmeTest");
    }

    private static void makeExample(List<String> lines) throws ReflectiveOperationException {
        int from = lines.indexOf(BEGINNING);
        Check.due("README.md has an example", from >= 0, true);
        Triggerwright scope = new Triggerwright();
        for (int k = from + 1; k < lines.size() && !lines.get(k).isEmpty(); k++) {
            makeCall(scope, lines.get(k));
        }
        Check.due("the example comes to a record", scope.records(), 1);
    }

    /** Makes the call of a line; what it answers must be told behind it. */
    private static void makeCall(Triggerwright scope, String line) throws ReflectiveOperationException {
        Matcher call = CALL.matcher(line);
        if (!call.matches()) {
            Check.same("README.md's example, by its line,", line, "a call with a remark");
            return;
        }
        Method method = find(call.group(1));
        Object got = method.invoke(scope, arguments(call.group(2)));
        Matcher answer = ANSWER.matcher(call.group(3));
        String due = answer.matches() ? answer.group(1) : "nothing told";
        String told = method.getReturnType() == void.class ? "nothing told" : String.valueOf(got);
        Check.same("README.md's example: " + line.trim(), told, due);
    }

    private static Method find(String name) {
        for (Method method : Triggerwright.class.getDeclaredMethods()) {
            if (method.getName().equals(name) && Modifier.isPublic(method.getModifiers())) {
                return method;
            }
        }
        throw new AssertionError("README.md calls " + name + ", which is not there");
    }

    private static Object[] arguments(String list) {
        if (list.isEmpty()) {
            return new Object[0];
        }
        String[] words = list.split(", ");
        Object[] arguments = new Object[words.length];
        for (int k = 0; k < words.length; k++) {
            boolean flag = words[k].equals("true") || words[k].equals("false");
            arguments[k] = flag ? (Object) Boolean.valueOf(words[k]) : (Object) Integer.valueOf(words[k]);
        }
        return arguments;
    }

    private static void nameAllCalls(String text) {
        for (Method method : Triggerwright.class.getDeclaredMethods()) {
            if (Modifier.isPublic(method.getModifiers())) {
                String name = "`" + method.getName() + "`";
                Check.due("README.md names " + name, text.contains(name), true);
            }
        }
    }
}

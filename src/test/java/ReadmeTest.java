import java.io.IOException;
import java.lang.reflect.Method;
import java.lang.reflect.Modifier;
import java.nio.file.Files;
import java.nio.file.Path;
import java.util.HashMap;
import java.util.List;
import java.util.Map;
import java.util.regex.Matcher;
import java.util.regex.Pattern;

/** What README.md says of the use: its calls are made, and their answers compared with those told there. */
public final class ReadmeTest {
    private static final Pattern CALL =
        Pattern.compile("(?:int (\\w+) = )?kitchen\\.(\\w+)\\(([^)]*)\\); +// (-?\\d+)\\b.*");

    private final TinKitchen kitchen = new TinKitchen();
    private final Map<String, Integer> named = new HashMap<>();
    private int calls = 0;

    public static void main(String[] arguments) throws IOException, ReflectiveOperationException {
        List<String> lines = Files.readAllLines(Path.of("README.md"));
        ReadmeTest test = new ReadmeTest();
        test.makeTheCalls(lines);
        Check.due("there are calls", 1, test.calls > 0 ? 1 : 0);
        theTableHasEachMethod(lines);
        Check.end("ReadmeTest");
    }

    private void makeTheCalls(List<String> lines) throws ReflectiveOperationException {
        int first = lines.indexOf("```java") + 1;
        Check.due("the first line makes a kitchen", first, lines.indexOf("TinKitchen kitchen = new TinKitchen();"));
        for (String line : lines.subList(first + 1, lines.size())) {
            if (line.equals("```")) {
                return;
            }
            if (!line.isEmpty()) {
                makeTheCall(line);
            }
        }
        Check.tell("the calls have no end");
    }

    private void makeTheCall(String line) throws ReflectiveOperationException {
        Matcher call = CALL.matcher(line);
        if (!call.matches()) {
            Check.tell("not a call with its answer: " + line);
            return;
        }
        Method method = method(call.group(2));
        String[] told = call.group(3).isEmpty() ? new String[0] : call.group(3).split(", ");
        Object[] given = new Object[told.length];
        for (int at = 0; at < told.length; at++) {
            given[at] = method.getParameterTypes()[at] == long.class
                ? (Object) Long.decode(told[at].replace("L", "")) : (Object) number(told[at]);
        }
        int answer = (int) method.invoke(kitchen, given);
        Check.due(line, Integer.parseInt(call.group(4)), answer);
        if (call.group(1) != null) {
            named.put(call.group(1), answer);
        }
        calls++;
    }

    private Integer number(String told) {
        return named.containsKey(told) ? named.get(told) : Integer.decode(told);
    }

    private static Method method(String name) throws NoSuchMethodException {
        for (Method method : TinKitchen.class.getDeclaredMethods()) {
            if (method.getName().equals(name) && Modifier.isPublic(method.getModifiers())) {
                return method;
            }
        }
        throw new NoSuchMethodException(name);
    }

    private static void theTableHasEachMethod(List<String> lines) {
        for (Method method : TinKitchen.class.getDeclaredMethods()) {
            if (Modifier.isPublic(method.getModifiers())) {
                boolean isThere = lines.stream().anyMatch(line -> line.startsWith("| `")
                    && line.contains("`" + method.getName() + "`"));
                Check.due("the table has " + method.getName(), 1, isThere ? 1 : 0);
            }
        }
    }
}

import java.io.IOException;
import java.lang.reflect.InvocationTargetException;
import java.lang.reflect.Method;
import java.nio.file.Files;
import java.nio.file.Path;
import java.util.HashMap;
import java.util.Map;
import java.util.regex.Matcher;
import java.util.regex.Pattern;

/** The examples of README.md are run line by line, and answer what is written behind each. */
public final class ReadmeTest extends Checks {
    private static final String NEW_PAGE = "PagesForAll page = new PagesForAll();";
    private static final Pattern CALL =
        Pattern.compile("(?:int (\\w+) = )?page\\.(\\w+)\\(([^)]*)\\); +// (-?\\d+): .+");
    private static final int FEWEST_CALLS = 20;

    private final Map<String, Integer> named = new HashMap<>();
    private PagesForAll page = null;

    private int number(String text) {
        Integer known = named.get(text);
        return known != null ? known : Integer.parseInt(text);
    }

    private Object[] arguments(String list) {
        if (list.isEmpty()) {
            return new Object[0];
        }
        String[] texts = list.split(", ");
        Object[] numbers = new Object[texts.length];
        for (int i = 0; i < texts.length; i++) {
            numbers[i] = number(texts[i]);
        }
        return numbers;
    }

    private static Method method(String name) {
        for (Method method : PagesForAll.class.getMethods()) {
            if (method.getName().equals(name)) {
                return method;
            }
        }
        throw new IllegalArgumentException("README.md calls " + name + ", which there is none of");
    }

    private void runCall(Matcher call) throws IllegalAccessException, InvocationTargetException {
        Object answer = method(call.group(2)).invoke(page, arguments(call.group(3)));
        due("README.md: " + call.group(), ((Number) answer).longValue(), Long.parseLong(call.group(4)));
        if (call.group(1) != null) {
            named.put(call.group(1), ((Number) answer).intValue());
        }
    }

    private int runExamples(String text) throws IllegalAccessException, InvocationTargetException {
        int calls = 0;
        boolean inExample = false;
        for (String line : text.split("\n")) {
            Matcher call = CALL.matcher(line);
            if (line.startsWith("```")) {
                inExample = line.equals("```java");
            } else if (inExample && line.equals(NEW_PAGE)) {
                page = new PagesForAll();
                named.clear();
            } else if (inExample && call.matches()) {
                runCall(call);
                calls++;
            } else if (inExample) {
                due("whether this line of README.md could be run: " + line, 0, 1);
            }
        }
        return calls;
    }

    public static void main(String[] args) throws IOException, IllegalAccessException, InvocationTargetException {
        int calls = new ReadmeTest().runExamples(Files.readString(Path.of("README.md")));
        due("whether README.md has examples", calls > FEWEST_CALLS ? 1 : 0, 1);
        end();
    }
}

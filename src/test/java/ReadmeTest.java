import java.io.IOException;
import java.lang.reflect.InvocationTargetException;
import java.lang.reflect.Method;
import java.nio.file.Files;
import java.nio.file.Path;
import java.util.ArrayDeque;
import java.util.ArrayList;
import java.util.Deque;
import java.util.HashMap;
import java.util.List;
import java.util.Map;
import java.util.regex.Matcher;
import java.util.regex.Pattern;

/** Does the calls that README.md shows, line by line, and compares the answers that it tells. */
public final class ReadmeTest {
    private static final Check CHECK = new Check("ReadmeTest");

    private static final Pattern LINE =
            Pattern.compile("(?:int (\\w+) = )?(loom\\..*);\\s*(?://\\s*answers (-?\\d+|true|false)(?::.*)?)?");
    private static final Pattern TOKEN = Pattern.compile("loom\\.\\w+|-?\\d+|\\w+|[(),]");

    private final RootLoom loom = new RootLoom();
    private final Map<String, Integer> names = new HashMap<>();
    /** Of the line at hand, those that are not read yet. */
    private final Deque<String> tokens = new ArrayDeque<>();

    public static void main(String[] args) throws IOException, ReflectiveOperationException {
        Path root = Path.of(args.length == 0 ? "." : args[0]);
        new ReadmeTest().doAll(Files.readAllLines(root.resolve("README.md")));
        CHECK.end();
    }

    private void doAll(List<String> lines) throws ReflectiveOperationException {
        boolean inJava = false;
        int made = 0;
        int done = 0;
        for (String line : lines) {
            if (line.startsWith("```")) {
                inJava = line.equals("```java");
            } else if (inJava && line.equals("RootLoom loom = new RootLoom();")) {
                made++;
            } else if (inJava) {
                doLine(line);
                done++;
            }
        }
        CHECK.due("objects that README.md makes", made, 1);
        CHECK.due("README.md shows calls", done > 0, true);
    }

    private void doLine(String line) throws ReflectiveOperationException {
        Matcher found = LINE.matcher(line);
        if (!found.matches()) {
            CHECK.due("'" + line + "' can be read", false, true);
            return;
        }
        Matcher token = TOKEN.matcher(found.group(2));
        tokens.clear();
        while (token.find()) {
            tokens.add(token.group());
        }
        int answer = read();
        if (found.group(1) != null) {
            names.put(found.group(1), answer);
        }
        String told = found.group(3);
        if (told != null) {
            boolean isWord = told.equals("true") || told.equals("false");
            CHECK.due(found.group(2), answer, isWord ? (told.equals("true") ? 1 : 0) : Integer.parseInt(told));
        }
    }

    /** A number, a name, or a call with such as its arguments. */
    private int read() throws ReflectiveOperationException {
        String token = tokens.remove();
        if (token.startsWith("loom.")) {
            return call(token.substring("loom.".length()));
        }
        return names.containsKey(token) ? names.get(token) : Integer.parseInt(token);
    }

    private int call(String name) throws ReflectiveOperationException {
        List<Object> arguments = new ArrayList<>();
        tokens.remove();
        while (!tokens.peek().equals(")")) {
            arguments.add(read());
            if (tokens.peek().equals(",")) {
                tokens.remove();
            }
        }
        tokens.remove();
        for (Method method : RootLoom.class.getDeclaredMethods()) {
            if (method.getName().equals(name) && method.getParameterCount() == arguments.size()) {
                return asInt(method, arguments.toArray());
            }
        }
        throw new IllegalStateException("README.md calls " + name + ", which is not of the face");
    }

    private int asInt(Method method, Object[] arguments) throws IllegalAccessException, InvocationTargetException {
        Object answer = method.invoke(loom, arguments);
        return answer instanceof Boolean ? ((Boolean) answer ? 1 : 0) : (Integer) answer;
    }
}

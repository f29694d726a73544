import java.io.IOException;
import java.lang.reflect.InvocationTargetException;
import java.lang.reflect.Method;
import java.lang.reflect.Modifier;
import java.nio.file.Files;
import java.nio.file.Path;
import java.util.HashMap;
import java.util.Map;
import java.util.regex.Matcher;
import java.util.regex.Pattern;

/** README.md: each line of its examples answers as it tells, and it names every call and how to run the tests. */
public final class ReadmeTest {
    private static final Pattern MADE = Pattern.compile("BladeBetweenThumbs (\\w) = new BladeBetweenThumbs\\(\\);");
    private static final Pattern TEXT = Pattern.compile("String text = \"(.*)\";");
    private static final Pattern CALL = Pattern.compile("(?:int (\\w+) = )?(\\w)\\.(\\w+)\\((.*?)\\); +// .*: (-?\\d+)");
    private static final Due due = new Due();
    private static final Map<String, BladeBetweenThumbs> objects = new HashMap<>();
    private static final Map<String, Integer> numbers = new HashMap<>();
    private static String text = "";

    public static void main(String[] args) throws IOException {
        String readme = Files.readString(Path.of("README.md"));
        boolean isExample = false;
        for (String line : readme.split("\n")) {
            if (line.startsWith("```")) {
                isExample = line.equals("```java");
            } else if (isExample) {
                example(line);
            }
        }
        due.is("examples with objects of their own", objects.size(), 2);
        for (Method call : BladeBetweenThumbs.class.getDeclaredMethods()) {
            boolean isTold = !Modifier.isPublic(call.getModifiers()) || readme.contains("`" + call.getName() + "`");
            due.is("README.md names " + call.getName(), isTold ? 1 : 0, 1);
        }
        due.is("README.md tells how to run the tests", readme.contains("\n    .ci/run\n") ? 1 : 0, 1);
        due.end();
    }

    private static void example(String line) {
        Matcher made = MADE.matcher(line);
        Matcher said = TEXT.matcher(line);
        Matcher call = CALL.matcher(line);
        if (made.matches()) {
            objects.put(made.group(1), new BladeBetweenThumbs());
        } else if (said.matches()) {
            text = said.group(1);
            numbers.put("text.length()", text.length());
        } else if (line.equals("    y.put(0, i, text.charAt(i));")) {
            putText();
        } else if (call.matches()) {
            int want = Integer.parseInt(call.group(5));
            due.is(line, ask(objects.get(call.group(2)), call.group(3), call.group(4)), want);
            numbers.put(call.group(1), want);
        } else if (!line.equals("for (int i = 0; i < text.length(); i++) {") && !line.equals("}")) {
            due.is("a line of README.md that can't be read: " + line, 1, 0);
        }
    }

    private static void putText() {
        for (int i = 0; i < text.length(); i++) {
            due.is("put " + i, objects.get("y").put(0, i, text.charAt(i)), 0);
        }
    }

    private static long ask(BladeBetweenThumbs x, String name, String with) {
        String[] said = with.isEmpty() ? new String[0] : with.split(", ");
        Object[] boxed = new Object[said.length];
        for (int i = 0; i < said.length; i++) {
            boxed[i] = numbers.containsKey(said[i]) ? numbers.get(said[i]) : Integer.valueOf(said[i]);
        }
        for (Method call : BladeBetweenThumbs.class.getMethods()) {
            if (call.getName().equals(name)) {
                try {
                    return ((Number) call.invoke(x, boxed)).longValue();
                } catch (InvocationTargetException | IllegalAccessException e) {
                    return Long.MIN_VALUE;
                }
            }
        }
        return Long.MIN_VALUE;
    }
}

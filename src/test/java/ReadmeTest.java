import java.io.IOException;
import java.lang.reflect.Method;
import java.nio.file.Files;
import java.nio.file.Path;
import java.util.HashMap;
import java.util.Map;
import java.util.TreeSet;
import java.util.regex.Matcher;
import java.util.regex.Pattern;

/** The calls that README.md shows, made in their order on one object: each answers what stands behind it. */
public final class ReadmeTest {
    private static final Pattern CALL =
            Pattern.compile("(?:int (\\w+) = )?(?:star\\.)?(\\w+)\\((.*)\\); *// (-?\\d+|[A-Z]+)\\b.*");
    private static final Pattern TELLING = Pattern.compile("star, (\\d+), \"(.*)\"");

    private static final Dues dues = new Dues("ReadmeTest");
    private static final SameStar star = new SameStar();
    private static final Map<String, Long> told = new HashMap<>();
    private static final TreeSet<String> called = new TreeSet<>();

    private ReadmeTest() {
    }

    public static void main(String[] args) throws IOException, ReflectiveOperationException {
        boolean isJava = false;
        for (String line : Files.readAllLines(Path.of("README.md"))) {
            if (line.startsWith("```")) isJava = line.equals("```java");
            else if (isJava) hold(line);
        }
        dues.due("the calls that the page shows are far fewer: " + called, called.size() >= 25 ? 1 : 0, 1);
        dues.end();
    }

    private static void hold(String line) throws ReflectiveOperationException {
        Matcher call = CALL.matcher(line);
        if (!call.matches()) {
            dues.due("no answer stands behind: " + line, line.contains("//") ? 1 : 0, 0);
            return;
        }
        long answer = answerOf(call.group(2), call.group(3));
        dues.due(line, answer, numberOf(call.group(4)));
        if (call.group(1) != null) told.put(call.group(1), answer);
        called.add(call.group(2));
    }

    private static long answerOf(String name, String between) throws ReflectiveOperationException {
        Matcher telling = TELLING.matcher(between);
        if (name.equals("tell") && telling.matches()) {
            return Dues.tell(star, Integer.parseInt(telling.group(1)), telling.group(2));
        }
        String[] parts = between.isEmpty() ? new String[0] : between.split(", ");
        Method method = methodOf(name);
        Object[] values = new Object[parts.length];
        for (int i = 0; i < parts.length; i++) {
            long value = numberOf(parts[i]);
            if (method.getParameterTypes()[i] == long.class) values[i] = value;
            else values[i] = (int) value;
        }
        return ((Number) method.invoke(star, values)).longValue();
    }

    private static Method methodOf(String name) {
        for (Method method : SameStar.class.getMethods()) {
            if (method.getName().equals(name)) return method;
        }
        throw new IllegalStateException("the class has no " + name);
    }

    /** A number as it stands, one that an earlier line told, or a constant of the class. */
    private static long numberOf(String word) throws ReflectiveOperationException {
        if (told.containsKey(word)) return told.get(word);
        if (word.matches("[A-Z]+")) return SameStar.class.getField(word).getInt(null);
        return Long.parseLong(word);
    }
}

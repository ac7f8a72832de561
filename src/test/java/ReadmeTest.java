import java.lang.reflect.Method;
import java.nio.file.Files;
import java.nio.file.Path;
import java.util.regex.Matcher;
import java.util.regex.Pattern;

/** The example of README.md: each of its calls with a comment is made, and answers what the comment's first word says. */
public final class ReadmeTest {
    private static final Pattern CALL = Pattern.compile("match\\.(\\w+)\\((.*)\\); +// (\\w+).*");
    private static final int CALLS = 19;

    public static void main(String[] args) throws Exception {
        Due due = new Due();
        Rotationary match = new Rotationary();
        Due.tellOrders(match);
        int calls = 0;
        for (String line : Files.readAllLines(Path.of("README.md"))) {
            Matcher matcher = CALL.matcher(line);
            if (matcher.matches()) {
                calls++;
                String got = call(match, matcher.group(1), matcher.group(2));
                String want = "" + value(matcher.group(3));
                if (!got.equals(want)) {
                    due.tell("README.md: " + line + " answered " + got);
                }
            }
        }
        due.is("too few calls in README.md", calls < CALLS, false);
        due.end();
    }

    private static String call(Rotationary match, String name, String list) throws Exception {
        String[] texts = list.isEmpty() ? new String[0] : list.split(", ");
        Object[] values = new Object[texts.length];
        for (int i = 0; i < texts.length; i++) {
            values[i] = value(texts[i]);
        }
        for (Method method : Rotationary.class.getMethods()) {
            if (method.getName().equals(name)) {
                return "" + method.invoke(match, values);
            }
        }
        return "nothing, as there is no such method";
    }

    private static Object value(String text) throws Exception {
        if (text.equals("true") || text.equals("false")) {
            return Boolean.valueOf(text);
        }
        if (text.matches("-?\\d+")) {
            return Integer.valueOf(text);
        }
        return Rotationary.class.getField(text.replace("Rotationary.", "")).get(null);
    }
}

import java.nio.file.Files;
import java.nio.file.Path;
import java.util.List;
import java.util.regex.Matcher;
import java.util.regex.Pattern;

/** Those rules of ../shared/LANGUAGE.md that can be seen in the text of the program, which is this test's argument. */
public final class LanguageTest {
    private static final String[] FORBIDDEN = {
        "->", "::", "\\bpackage\\b", "\\bimport\\b", "\\bcatch\\b", "\\bfinally\\b", "\\bsynchronized\\b", "\\bassert\\b", "\\binstanceof\\b",
        "\\bSystem\\b", "\\bThread\\b", "\\bRandom\\b", "\\bequals\\b", "\\bhashCode\\b", "\\btoString\\b", "\\w+Exact\\b", "\\bnull\\b", "\\bwhile\\b"};
    private static final int LINES_OF_A_METHOD = 60, CLASSES = 12, FIELDS_OF_A_CLASS = 20;

    public static void main(String[] args) throws Exception {
        Due due = new Due();
        List<String> lines = Files.readAllLines(Path.of(args[0]));
        for (int i = 0; i < lines.size(); i++) {
            String code = lines.get(i).replaceAll("\"[^\"]*\"", "\"\"").replaceAll("//.*|^\\s*/\\*\\*.*", "");
            for (String forbidden : FORBIDDEN) {
                Matcher matcher = Pattern.compile(forbidden).matcher(code);
                if (matcher.find()) {
                    due.tell("line " + (i + 1) + " holds " + matcher.group());
                }
            }
            indexIsGuarded(due, i + 1, code);
            nothingIsMadeByCalls(due, i + 1, code);
        }
        methodsAreShort(due, lines);
        Class<?>[] inside = Rotationary.class.getDeclaredClasses();
        due.is("too many classes", inside.length + 1 > CLASSES, false);
        for (Class<?> one : inside) {
            due.is("too many fields in " + one.getSimpleName(), one.getDeclaredFields().length > FIELDS_OF_A_CLASS, false);
        }
        due.end();
    }

    /** An array is read and written by valueIn and putIn alone, which look at the index first. */
    private static void indexIsGuarded(Due due, int line, String code) {
        Matcher matcher = Pattern.compile("(\\w+)\\[([^\\]]+)\\]").matcher(code);
        while (matcher.find()) {
            boolean isNew = matcher.group(1).equals("int") && code.contains("new int[");
            due.is("an index out of valueIn and putIn in line " + line, isNew || matcher.group().equals("row[index]"), true);
        }
    }

    /** All calls of a run live in one room: what a match needs is made with it, and calls make nothing but exceptions. */
    private static void nothingIsMadeByCalls(Due due, int line, String code) {
        boolean isField = code.matches("\\s+private final .* = new .*;");
        due.is("something is made in line " + line, !code.contains("new ") || isField || code.contains("throw new "), true);
    }

    private static void methodsAreShort(Due due, List<String> lines) {
        int start = -1;
        for (int i = 0; i < lines.size(); i++) {
            String line = lines.get(i);
            if (line.matches(" {4}( {4})?\\S.*\\{") && !line.contains(" class ")) {
                start = i;
            } else if (line.matches(" {4}( {4})?\\}") && start >= 0) {
                due.is("a method of too many lines from line " + (start + 1), i - start + 1 > LINES_OF_A_METHOD, false);
                start = -1;
            }
        }
    }
}

import java.io.IOException;
import java.lang.reflect.Method;
import java.lang.reflect.Modifier;
import java.nio.file.Files;
import java.nio.file.Path;
import java.util.Arrays;
import java.util.regex.Matcher;
import java.util.regex.Pattern;

/** README.md tells the truth: its example's answers are the class's, and it names every call. */
public final class ReadmeTest {
    private static final Pattern TEXT = Pattern.compile("String text = \"([^\"]*)\";");
    private static final Pattern ANSWERED = Pattern.compile("x\\.(\\w+)\\(([-\\d, ]*)\\);\\s*// (-?\\d+)");

    public static void main(String[] args) throws IOException, ReflectiveOperationException {
        String readme = Files.readString(Path.of("README.md"));
        answersOf(exampleIn(readme));
        statementsIn(readme);
        everyCallIn(readme);
        Check.finish();
    }

    private static String exampleIn(String readme) {
        int begin = readme.indexOf("```java");
        int end = readme.indexOf("```", begin + 3);
        Check.holds("README.md has an example", begin >= 0 && end > begin);
        return begin >= 0 && end > begin ? readme.substring(begin, end) : "";
    }

    private static void answersOf(String example) throws ReflectiveOperationException {
        GravediggerPaid x = new GravediggerPaid();
        Matcher text = TEXT.matcher(example);
        Check.holds("the example tells a churchyard", text.find());
        for (char c : text.group(1).toCharArray()) {
            x.letter(c);
        }
        Matcher line = ANSWERED.matcher(example);
        int lines = 0;
        while (line.find()) {
            lines++;
            Check.due("README.md: " + line.group(), answer(x, line.group(1), line.group(2)),
                Long.parseLong(line.group(3)));
        }
        Check.due("lines with an answer", lines, example.split("// ", -1).length - 1);
    }

    private static long answer(GravediggerPaid x, String name, String list)
            throws ReflectiveOperationException {
        Object[] given = Pattern.compile("-?\\d+").matcher(list).results()
            .map(n -> (Object) Integer.valueOf(n.group())).toArray();
        Class<?>[] types = new Class<?>[given.length];
        Arrays.fill(types, int.class);
        Method call = GravediggerPaid.class.getMethod(name, types);
        return ((Number) call.invoke(x, given)).longValue();
    }

    /** Behind all that they speak of, the table's statements come without a fault. */
    private static void statementsIn(String readme) {
        GravediggerPaid x = Check.yard("g0;g0;g0;g0;mm000;");
        Matcher row = Pattern.compile("(?m)^\\| `([a-z]\\w+;)` \\|").matcher(readme);
        int rows = 0;
        while (row.find()) {
            rows++;
            Check.due("README.md: " + row.group(1), Check.tell(x, row.group(1)), 1);
        }
        Check.due("kinds of statements", rows, 7);
    }

    private static void everyCallIn(String readme) {
        for (Method m : GravediggerPaid.class.getDeclaredMethods()) {
            if (Modifier.isPublic(m.getModifiers())) {
                Check.holds("README.md names " + m.getName(), readme.contains("`" + m.getName() + "`"));
            }
        }
    }
}

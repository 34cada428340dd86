import java.io.IOException;
import java.lang.reflect.InvocationTargetException;
import java.lang.reflect.Method;
import java.nio.file.Files;
import java.nio.file.Path;
import java.util.ArrayList;
import java.util.List;
import java.util.regex.Matcher;
import java.util.regex.Pattern;

/** README.md tells the constructor and each call of the face, and its example's answers are right. */
public final class ReadmeTest {
    private static final Pattern DECLARATION = Pattern.compile("(?m)^    public (.*\\)[^{;=]*) \\{$");
    private static final Pattern EXAMPLE = Pattern.compile("(?m)^x\\.(\\w+)\\((.*)\\); +// (\\S+)");

    public static void main(String[] args) throws IOException, ReflectiveOperationException {
        String page = Files.readString(Path.of("README.md"));
        String source = Files.readString(Path.of("src/main/java/RopeMountain.java"));
        tellsEachCall(page, source);
        tellsRefusalThrowingAndTests(page);
        exampleIsRight(page);
        Check.end();
    }

    private static void tellsEachCall(String page, String source) {
        int found = 0;
        for (Matcher m = DECLARATION.matcher(source); m.find(); found++) {
            Check.due("README tells " + m.group(1), page.contains("`" + m.group(1) + "`"), true);
        }
        Check.due("the constructor and the calls in the source", found, 18);
    }

    private static void tellsRefusalThrowingAndTests(String page) {
        // Where the page breaks its lines says nothing.
        String oneLine = page.replace('\n', ' ');
        String[] needed = {"answers `RopeMountain.NONE` (-1), or false", "and changes nothing",
            "Only `of` throws: a `java.util.NoSuchElementException`"};
        for (String text : needed) {
            Check.due("README says " + text, oneLine.contains(text), true);
        }
        Check.due("README has the command of the tests", page.contains("\n.ci/run\n"), true);
    }

    private static void exampleIsRight(String page) throws ReflectiveOperationException {
        RopeMountain x = new RopeMountain();
        int calls = 0;
        for (Matcher m = EXAMPLE.matcher(page); m.find(); calls++) {
            String got = String.valueOf(answer(x, m.group(1), m.group(2).split(", ")));
            Check.due("README: " + m.group() + ": got " + got, got.equals(m.group(3)), true);
        }
        Check.due("README has an example", calls > 0, true);
    }

    private static Object answer(RopeMountain x, String name, String[] texts)
            throws IllegalAccessException, InvocationTargetException {
        List<Object> values = new ArrayList<>();
        for (String text : texts) {
            boolean isNumber = text.matches("-?\\d+");
            values.add(isNumber ? (Object) Integer.valueOf(text) : (Object) Boolean.valueOf(text));
        }
        for (Method m : RopeMountain.class.getMethods()) {
            if (m.getName().equals(name) && m.getParameterCount() == values.size()) {
                return m.invoke(x, values.toArray());
            }
        }
        return "no such call";
    }
}

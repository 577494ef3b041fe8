import java.io.IOException;
import java.lang.reflect.Method;
import java.lang.reflect.Modifier;
import java.nio.file.DirectoryStream;
import java.nio.file.Files;
import java.nio.file.Path;
import java.util.ArrayList;
import java.util.HashMap;
import java.util.List;
import java.util.Map;
import java.util.regex.Matcher;
import java.util.regex.Pattern;

/** README.md's example answers what it says, and README.md names every call and every test. */
public final class ReadmeTest {
    private static final Check CHECK = new Check("ReadmeTest");
    private static final Pattern EXAMPLE = Pattern.compile("(?s)```java\n(.*?)```");
    private static final Pattern ROW = Pattern.compile("(x\\..*\\)); *// (NONE|-?\\d+)(: .*)?");
    private static final String FIRST_ROW = "DisputeHalving x = new DisputeHalving();";

    private final DisputeHalving x = new DisputeHalving();
    private final Map<String, Method> face = new HashMap<>();
    /** What is left to read of the call that is being made. */
    private String rest = "";

    private ReadmeTest() {
        for (Method method : DisputeHalving.class.getDeclaredMethods()) {
            if (Modifier.isPublic(method.getModifiers())) {
                face.put(method.getName(), method);
            }
        }
    }

    public static void main(String[] args) throws IOException, ReflectiveOperationException {
        String readme = Files.readString(Path.of("README.md"));
        ReadmeTest test = new ReadmeTest();
        test.example(readme);
        test.namesEveryCall(readme);
        namesEveryTest(readme);
        CHECK.end();
    }

    private void example(String readme) throws ReflectiveOperationException {
        Matcher block = EXAMPLE.matcher(readme);
        CHECK.holds("there is an example", block.find());
        String[] rows = block.group(1).split("\n");
        CHECK.holds("the example begins with " + FIRST_ROW, rows[0].equals(FIRST_ROW));
        for (int i = 1; i < rows.length; i++) {
            if (!rows[i].isBlank() && !rows[i].startsWith("//")) {
                row(rows[i]);
            }
        }
        CHECK.holds("there is one example", !block.find());
    }

    private void row(String row) throws ReflectiveOperationException {
        Matcher parts = ROW.matcher(row);
        boolean isCall = parts.matches();
        CHECK.holds("a call with its answer: " + row, isCall);
        if (isCall) {
            rest = parts.group(1);
            String said = parts.group(2);
            long due = said.equals("NONE") ? DisputeHalving.NONE : Long.parseLong(said);
            CHECK.due(row, value().longValue(), due);
            CHECK.holds("nothing behind the call: " + row, rest.isEmpty());
        }
    }

    /**
     * The answer of the call, or the number, that comes next; calls stand in calls. An int is taken for a long
     * and a long is not for an int, as the compiler would have it.
     */
    private Number value() throws ReflectiveOperationException {
        Matcher number = Pattern.compile("-?\\d+").matcher(rest);
        if (number.lookingAt()) {
            rest = rest.substring(number.end());
            return Integer.valueOf(number.group());
        }
        int open = rest.indexOf('(');
        Method method = face.get(rest.substring("x.".length(), open));
        rest = rest.substring(open + 1);
        List<Number> values = new ArrayList<>();
        for (int i = 0; i < method.getParameterCount(); i++) {
            skip(i == 0 ? "" : ", ");
            values.add(value());
        }
        skip(")");
        return (Number) method.invoke(x, values.toArray());
    }

    private void skip(String mark) {
        if (!rest.startsWith(mark)) {
            throw new IllegalStateException("'" + mark + "' is due before: " + rest);
        }
        rest = rest.substring(mark.length());
    }

    private void namesEveryCall(String readme) {
        for (String name : face.keySet()) {
            CHECK.holds("README.md names " + name, readme.contains("`" + name + "`"));
        }
    }

    private static void namesEveryTest(String readme) throws IOException {
        try (DirectoryStream<Path> tests = Files.newDirectoryStream(Path.of("src/test/java"), "*Test.java")) {
            for (Path test : tests) {
                String name = test.getFileName().toString().replace(".java", "");
                CHECK.holds("README.md names " + name, readme.contains("| `" + name + "` |"));
            }
        }
    }
}

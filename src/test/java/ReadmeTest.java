import java.io.IOException;
import java.lang.reflect.Field;
import java.lang.reflect.Method;
import java.nio.file.Files;
import java.nio.file.Path;
import java.util.ArrayList;
import java.util.List;
import java.util.Set;
import java.util.TreeSet;
import java.util.regex.Matcher;
import java.util.regex.Pattern;
import java.util.stream.Collectors;
import java.util.stream.Stream;

/** README.md says only what is so: its calls, its constants and its examples. */
public final class ReadmeTest {
    /** A call of the example, and the number with which its comment begins. */
    private static final Pattern EXAMPLE = Pattern.compile("x\\.(\\w+)\\((.*)\\); +// (-?\\d+)(:.*)?");
    /** A call as the table names it, in code signs at the beginning of a row. */
    private static final Pattern NAMED = Pattern.compile("`(\\w+)\\(([\\w, ]*)\\)`");
    private static final Pattern DECLARED = Pattern.compile("public int (\\w+)\\((.*)\\);");
    private static final Pattern CONSTANT = Pattern.compile("\\| `(\\w+)` \\| (-?\\d+) \\|.*");
    private static final Pattern ORDER = Pattern.compile("`([bs][-0-9,=]+)` is `(\\w+)\\((.*?)\\)`");

    private static List<String> lines;

    private ReadmeTest() {
    }

    public static void main(String[] args) throws IOException {
        lines = Files.readAllLines(Path.of("README.md"));
        Tests.test("README.md: each line of the example answers as its comment says", ReadmeTest::example);
        Tests.test("README.md: the calls are those of the document's face, with its names of the arguments", ReadmeTest::calls);
        Tests.test("README.md: the constants and their numbers", ReadmeTest::constants);
        Tests.test("README.md: an order of a text draws as the call that it is", ReadmeTest::orders);
        Tests.test("README.md: every file of the tests that it names is there", ReadmeTest::files);
        Tests.end();
    }

    private static void example(Due due) throws ReflectiveOperationException {
        SpiralFrames x = new SpiralFrames();
        int calls = 0;
        for (String line : lines) {
            if (line.startsWith("x.")) {
                Matcher call = EXAMPLE.matcher(line);
                due.holds("a call and its answer: " + line, call.matches());
                due.is(line, answer(x, call.group(1), call.group(2)), Integer.parseInt(call.group(3)));
                calls++;
            }
        }
        due.holds("examples are seen: " + calls, calls > 5);
    }

    private static int answer(SpiralFrames x, String name, String text) throws ReflectiveOperationException {
        List<Object> arguments = new ArrayList<>();
        List<Class<?>> types = new ArrayList<>();
        Matcher argument = Pattern.compile("'(.)'|(true|false)|(-?\\d+)").matcher(text);
        while (argument.find()) {
            if (argument.group(1) != null) {
                arguments.add(argument.group(1).charAt(0));
                types.add(char.class);
            } else if (argument.group(2) != null) {
                arguments.add(Boolean.valueOf(argument.group(2)));
                types.add(boolean.class);
            } else {
                arguments.add(Integer.valueOf(argument.group(3)));
                types.add(int.class);
            }
        }
        Method method = SpiralFrames.class.getMethod(name, types.toArray(new Class<?>[0]));
        return (Integer) method.invoke(x, arguments.toArray());
    }

    private static void calls(Due due) throws IOException {
        Set<String> named = new TreeSet<>();
        for (String line : lines) {
            if (line.startsWith("| `")) {
                Matcher call = NAMED.matcher(line.substring(0, line.indexOf('|', 1)));
                while (call.find()) {
                    due.holds("named once: " + call.group(), named.add(call.group(1) + "(" + call.group(2) + ")"));
                }
            }
        }
        Set<String> promised = new TreeSet<>();
        for (String line : Files.readAllLines(Path.of("../shared/DOC.md"))) {
            Matcher method = DECLARED.matcher(line.trim());
            if (method.matches()) {
                promised.add(method.group(1) + "(" + method.group(2).replaceAll("\\b(int|boolean|char) ", "") + ")");
            }
        }
        due.is("how many calls are promised", promised.size(), 22);
        due.holds("the calls are " + promised + ", but named are " + named, named.equals(promised));
    }

    private static void constants(Due due) throws ReflectiveOperationException {
        Set<String> named = new TreeSet<>();
        for (String line : lines) {
            Matcher constant = CONSTANT.matcher(line);
            if (constant.matches()) {
                Field field = SpiralFrames.class.getField(constant.group(1));
                due.is(constant.group(1), Integer.parseInt(constant.group(2)), field.getInt(null));
                named.add(constant.group(1));
            }
        }
        Set<String> fields = Stream.of(SpiralFrames.class.getFields()).map(Field::getName).collect(Collectors.toSet());
        due.holds("the constants are " + fields + ", but named are " + named, named.equals(fields));
    }

    private static void orders(Due due) throws ReflectiveOperationException {
        int orders = 0;
        Matcher order = ORDER.matcher(String.join(" ", lines));
        while (order.find()) {
            Calls painted = new Calls();
            SpiralFrames called = new SpiralFrames();
            painted.fill(2, 3, 4, 5, 6);
            called.fill(2, 3, 4, 5, 6);
            due.is("paint() of " + order.group(1), painted.text(order.group(1)).paint(), 1);
            due.holds(order.group(), answer(called, order.group(2), order.group(3)) > 0);
            for (int point = 0; point < 144; point++) {
                due.is("point " + point + " behind " + order.group(1), painted.point(0, point % 12, point / 12),
                    called.point(0, point % 12, point / 12));
            }
            orders++;
        }
        due.is("orders that are seen", orders, 2);
    }

    private static void files(Due due) {
        Matcher file = Pattern.compile("`(\\w+)\\.java`").matcher(String.join("\n", lines));
        int files = 0;
        while (file.find()) {
            files++;
            due.holds("no file " + file.group(1), Files.exists(Path.of("src/test/java/" + file.group(1) + ".java")));
        }
        due.holds("files are seen: " + files, files > 5);
    }
}

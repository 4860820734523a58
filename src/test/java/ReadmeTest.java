import java.io.IOException;
import java.lang.reflect.Method;
import java.nio.file.Files;
import java.nio.file.Path;
import java.util.List;
import java.util.regex.Matcher;
import java.util.regex.Pattern;

/** What README.md tells of calls and programs is so. */
public final class ReadmeTest {
    private static final Pattern TEXT = Pattern.compile("String text = \"(.*)\";");
    private static final Pattern CALL = Pattern.compile("array\\.(\\w+)\\((.*)\\); *// (-?\\d+).*");
    private static final Pattern PROGRAM = Pattern.compile("\\| `([^`]*;|[^`]*})` \\| ([-0-9 ]*)\\|.*");

    public static void main(String[] arguments) throws IOException {
        Checks checks = new Checks("ReadmeTest");
        List<String> lines = Files.readAllLines(Path.of("README.md"));
        example(checks, lines);
        programs(checks, lines);
        checks.end();
    }

    private static void example(Checks checks, List<String> lines) {
        ArrayRecords array = new ArrayRecords();
        int calls = 0;
        for (String line : lines) {
            Matcher text = TEXT.matcher(line);
            Matcher call = CALL.matcher(line);
            if (text.matches()) {
                Checks.feed(array, text.group(1));
            } else if (call.matches()) {
                calls++;
                checks.compare(line, call.group(3), called(array, call.group(1), call.group(2)));
            }
        }
        checks.compare("calls in README.md", "9", String.valueOf(calls));
    }

    private static String called(ArrayRecords array, String name, String told) {
        Object[] numbers = Pattern.compile(", *").splitAsStream(told).filter(n -> !n.isEmpty()).map(Integer::valueOf).toArray();
        for (Method method : ArrayRecords.class.getMethods()) {
            if (method.getName().equals(name)) {
                try {
                    return String.valueOf(method.invoke(array, numbers));
                } catch (ReflectiveOperationException thrown) {
                    return thrown.toString();
                }
            }
        }
        return "no such call";
    }

    private static void programs(Checks checks, List<String> lines) {
        ArrayRecords array = new ArrayRecords();
        int programs = 0;
        for (String line : lines) {
            Matcher program = PROGRAM.matcher(line);
            if (program.matches()) {
                programs++;
                int before = array.printed();
                checks.compare(line, program.group(2).trim(), printedBy(array, program.group(1), before));
            }
        }
        checks.compare("programs in README.md", "8", String.valueOf(programs));
    }

    private static String printedBy(ArrayRecords array, String text, int before) {
        try {
            Checks.done(array, text);
        } catch (RuntimeException thrown) {
            return thrown + " at " + array.place();
        }
        StringBuilder numbers = new StringBuilder();
        for (int k = before; k < array.printed(); k++) {
            numbers.append(array.print(k)).append(' ');
        }
        return numbers.toString().trim();
    }
}

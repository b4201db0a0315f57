import java.io.IOException;
import java.lang.reflect.Field;
import java.lang.reflect.InvocationTargetException;
import java.lang.reflect.Method;
import java.lang.reflect.Modifier;
import java.nio.file.Files;
import java.nio.file.Path;
import java.util.ArrayList;
import java.util.Arrays;
import java.util.List;
import java.util.TreeSet;
import java.util.regex.Matcher;
import java.util.regex.Pattern;

/** README.md tells of the class as it is; it is read from the project's directory, where .ci/run stands. */
public final class ReadmeTest {
    private static final Check CHECK = new Check("readme");

    /** A line of the example: garden.name(arguments); // answer, then a colon and words. */
    private static final Pattern EXAMPLE = Pattern.compile("garden\\.(\\w+)\\(([^)]*)\\);\\s*// (-?[0-9.]+):.*");
    private static final Pattern CALL_ROW = Pattern.compile("\\| `(\\w+)\\(([^)]*)\\)` \\|.*");
    private static final Pattern CONSTANT_ROW = Pattern.compile("\\| `(\\w+)` \\| (-\\d) \\|.*");

    public static void main(String[] args) throws IOException, ReflectiveOperationException {
        List<String> lines = Files.readAllLines(Path.of("README.md"));
        theExampleAnswersSo(lines);
        eachCallIsTold(lines);
        eachConstantIsTold(lines);
        String text = String.join(" ", lines);
        told(text, "at most 512 calls");
        told(text, "A call that answers an error changes nothing.");
        told(text, ".ci/run");
        CHECK.end();
    }

    private static void told(String text, String words) {
        CHECK.due("README.md tells: " + words, text.contains(words) ? 1 : 0, 1);
    }

    private static List<Matcher> rows(List<String> lines, Pattern form) {
        List<Matcher> rows = new ArrayList<>();
        for (String line : lines) {
            Matcher m = form.matcher(line);
            if (m.matches()) {
                rows.add(m);
            }
        }
        return rows;
    }

    private static int[] numbers(String arguments) {
        return arguments.isEmpty() ? new int[0] : Arrays.stream(arguments.split(", ")).mapToInt(Integer::parseInt).toArray();
    }

    private static void theExampleAnswersSo(List<String> lines) throws ReflectiveOperationException {
        ViewGarden garden = new ViewGarden();
        List<Matcher> calls = rows(lines, EXAMPLE);
        for (Matcher m : calls) {
            Object answer = answer(garden, m.group(1), numbers(m.group(2)));
            CHECK.dueText("the example's " + m.group(1) + "(" + m.group(2) + ")", answer.toString(), m.group(3));
        }
        long lineCount = lines.stream().filter(line -> line.startsWith("garden.")).count();
        CHECK.due("lines of the example with an answer", calls.size(), lineCount);
        CHECK.due("there is an example", calls.isEmpty() ? 0 : 1, 1);
    }

    private static Object answer(ViewGarden garden, String name, int[] arguments)
            throws IllegalAccessException, InvocationTargetException, NoSuchMethodException {
        Class<?>[] types = new Class<?>[arguments.length];
        Arrays.fill(types, int.class);
        Method method = ViewGarden.class.getMethod(name, types);
        return method.invoke(garden, Arrays.stream(arguments).boxed().toArray());
    }

    private static void eachCallIsTold(List<String> lines) {
        TreeSet<String> due = new TreeSet<>();
        for (Method m : ViewGarden.class.getDeclaredMethods()) {
            if (Modifier.isPublic(m.getModifiers())) {
                due.add(m.getName() + "/" + m.getParameterCount());
            }
        }
        TreeSet<String> told = new TreeSet<>();
        for (Matcher m : rows(lines, CALL_ROW)) {
            told.add(m.group(1) + "/" + (m.group(2).isEmpty() ? 0 : m.group(2).split(", ").length));
        }
        CHECK.dueText("the calls that README.md tells", told.toString(), due.toString());
    }

    private static void eachConstantIsTold(List<String> lines) throws IllegalAccessException {
        TreeSet<String> due = new TreeSet<>();
        for (Field f : ViewGarden.class.getFields()) {
            due.add(f.getName() + "=" + f.getInt(null));
        }
        TreeSet<String> told = new TreeSet<>();
        for (Matcher m : rows(lines, CONSTANT_ROW)) {
            told.add(m.group(1) + "=" + m.group(2));
        }
        CHECK.dueText("the constants that README.md tells", told.toString(), due.toString());
    }
}

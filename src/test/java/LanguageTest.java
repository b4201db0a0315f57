import java.io.IOException;
import java.lang.reflect.Field;
import java.lang.reflect.Method;
import java.lang.reflect.Modifier;
import java.nio.file.Files;
import java.nio.file.Path;
import java.util.Set;
import java.util.regex.Matcher;
import java.util.regex.Pattern;

/**
 * The rules of ../shared/LANGUAGE.md that can be seen in the text of the class or in what is compiled of it, each
 * with its number; the source is read from the project's directory, where .ci/run stands.
 */
public final class LanguageTest {
    private static final Check CHECK = new Check("language");
    private static final Path SOURCE = Path.of("src/main/java/ViewGarden.java");

    private static final Set<String> IMPORTS = Set.of("java.util.ArrayList", "java.util.Arrays", "java.util.List",
            "java.util.Iterator", "java.util.NoSuchElementException");
    private static final Set<String> MATH = Set.of("abs", "max", "min", "floorDiv", "floorMod");
    private static final Set<String> ARRAYS = Set.of("copyOf", "copyOfRange", "fill");
    private static final Set<String> SYSTEM = Set.of("arraycopy");

    /** Words of no use to this class, which throws nothing and needs none of them. */
    private static final String[] UNUSED_WORDS = {"package", "try", "catch", "finally", "throw", "throws",
        "synchronized", "assert", "volatile", "native", "protected", "Thread", "Object", "Random", "var"};

    public static void main(String[] args) throws IOException {
        String source = Files.readString(SOURCE);
        String code = source.replaceAll("(?s)/\\*.*?\\*/", "").replaceAll("//[^\n]*", "");
        rule1And5MembersOf(ViewGarden.class);
        rule1NestedClasses();
        rule2And6Words(code);
        rule4Library(code);
        rule11Methods(code);
        rule12NoCallMakesAnObject(code);
        CHECK.end();
    }

    private static void holds(String what, boolean kept) {
        CHECK.dueText(what, kept ? "kept" : "broken", "kept");
    }

    private static void rule1And5MembersOf(Class<?> type) {
        int fields = 0;
        for (Field f : type.getDeclaredFields()) {
            boolean isStatic = Modifier.isStatic(f.getModifiers());
            fields += isStatic ? 0 : 1;
            holds("rule 5: the static " + f.getName() + " is final", !isStatic || Modifier.isFinal(f.getModifiers()));
            holds("rule 3: the field " + f.getName() + " is no array of arrays", !f.getType().getName().startsWith("[["));
        }
        holds("rule 11: " + type.getName() + " has some twenty fields at most", fields <= 20);
        for (Method m : type.getDeclaredMethods()) {
            holds("rule 11: " + m.getName() + " takes at most seven parameters", m.getParameterCount() <= 7);
        }
    }

    private static void rule1NestedClasses() {
        Class<?>[] nested = ViewGarden.class.getDeclaredClasses();
        holds("rule 11: some twelve classes at most", nested.length < 12);
        for (Class<?> type : nested) {
            int modifiers = type.getModifiers();
            holds("rule 1: " + type.getName() + " is static", Modifier.isStatic(modifiers));
            holds("rule 1: " + type.getName() + " is not seen outside", !Modifier.isPublic(modifiers) && !Modifier.isProtected(modifiers));
            rule1And5MembersOf(type);
        }
    }

    private static void rule2And6Words(String code) {
        for (String word : UNUSED_WORDS) {
            holds("rule 6: no " + word, !Pattern.compile("\\b" + word + "\\b").matcher(code).find());
        }
        holds("rule 2: no lambda", !code.contains("->"));
        holds("rule 2: no method reference", !code.contains("::"));
        holds("rule 5: no static initialiser block", !Pattern.compile("static\\s*\\{").matcher(code).find());
        holds("rule 4: signs 1 to 127 alone", code.chars().allMatch(sign -> sign > 0 && sign < 128));
    }

    private static void rule4Library(String code) {
        Matcher imported = Pattern.compile("import\\s+([\\w.*]+)").matcher(code);
        while (imported.find()) {
            holds("rule 4: import " + imported.group(1), IMPORTS.contains(imported.group(1)));
        }
        functionsOf("Math", MATH, code);
        functionsOf("Arrays", ARRAYS, code);
        functionsOf("System", SYSTEM, code);
    }

    private static void functionsOf(String library, Set<String> allowed, String code) {
        Matcher used = Pattern.compile("\\b" + library + "\\.(\\w+)").matcher(code);
        while (used.find()) {
            holds("rule 4: " + library + "." + used.group(1), allowed.contains(used.group(1)));
        }
    }

    /** A method begins with a line that ends in ") {" one or two steps in, and ends with a brace as far in. */
    private static void rule11Methods(String code) {
        Matcher method = Pattern.compile("(?ms)^( {4}| {8})(?=\\w)([^\n;]*\\)) \\{\n(.*?)^\\1\\}").matcher(code);
        int found = 0;
        while (method.find()) {
            found++;
            long lines = method.group(3).lines().count();
            holds("rule 11: a short method, " + method.group(2), lines <= 60);
        }
        holds("the methods are found", found > 50);
    }

    private static void rule12NoCallMakesAnObject(String code) {
        for (String line : code.split("\n")) {
            if (line.contains("new ")) {
                holds("rule 12: made by the constructor alone, " + line.trim(), line.startsWith("    private final "));
            }
        }
    }
}

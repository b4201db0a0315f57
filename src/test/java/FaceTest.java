import java.lang.reflect.Constructor;
import java.lang.reflect.Field;
import java.lang.reflect.Method;
import java.lang.reflect.Modifier;
import java.util.TreeSet;

/** The class shows the document's face and nothing else. */
public final class FaceTest {
    private static final Check CHECK = new Check("face");

    private static final String METHODS = "[addFeature(int,int,int,int):int, appears(int):int,"
            + " bestPlace(int):int, blockers(int,int,int):int, clearWishes():int,"
            + " clip(int,int,int):int, clipCost(int,int,int):int, count(int):int,"
            + " height(int,int):int, kind(int,int):int, lay(int,int,int):int,"
            + " meanProspect():float, opening(int,int,int):int, plant(int,int,int):int,"
            + " prospect(int,int):double, reset(int,int):int, seen(int,int):int,"
            + " sees(int,int,int):int, shown(int):int, spoiled():int, surprises(int):int,"
            + " walkBack(int):int, walkTo(int,int):int, wish(int,int,int):int, wishCost():int,"
            + " wishHeight(int,int):int]";

    private static final String CONSTANTS = "[BAD_VALUE=-4, FULL=-5, NONE=-7, NOT_POSSIBLE=-6,"
            + " NO_PLACE=-3, NO_SUCH_CELL=-1, NO_SUCH_FEATURE=-2]";

    public static void main(String[] args) throws IllegalAccessException {
        Class<?> face = ViewGarden.class;
        CHECK.dueText("the class", Modifier.toString(face.getModifiers()), "public final");
        checkMethods(face);
        checkConstants(face);
        Constructor<?>[] constructors = face.getDeclaredConstructors();
        CHECK.due("number of constructors", constructors.length, 1);
        CHECK.dueText("the constructor", constructors[0].toString(), "public ViewGarden()");
        CHECK.end();
    }

    private static void checkMethods(Class<?> face) {
        TreeSet<String> names = new TreeSet<>();
        TreeSet<String> seen = new TreeSet<>();
        for (Method m : face.getDeclaredMethods()) {
            if (Modifier.isPublic(m.getModifiers())) {
                names.add(m.getName());
                seen.add(signature(m));
                CHECK.due(m.getName() + " is static", m.getModifiers() & Modifier.STATIC, 0);
            }
        }
        for (Method m : face.getDeclaredMethods()) {
            if (!Modifier.isPublic(m.getModifiers())) {
                CHECK.dueText("the method " + m.getName(), Modifier.isPrivate(m.getModifiers()) ? "private" : "seen", "private");
                CHECK.dueText("the private method " + m.getName(), names.contains(m.getName()) ? "named like a public one" : "", "");
            }
        }
        CHECK.dueText("the public methods", seen.toString(), METHODS);
    }

    private static String signature(Method m) {
        StringBuilder s = new StringBuilder(m.getName()).append('(');
        for (Class<?> type : m.getParameterTypes()) {
            s.append(s.charAt(s.length() - 1) == '(' ? "" : ",").append(type.getName());
        }
        return s.append("):").append(m.getReturnType().getName()).toString();
    }

    private static void checkConstants(Class<?> face) throws IllegalAccessException {
        TreeSet<String> seen = new TreeSet<>();
        for (Field f : face.getDeclaredFields()) {
            if (Modifier.isPublic(f.getModifiers())) {
                CHECK.dueText("the constant " + f.getName(), Modifier.toString(f.getModifiers()) + " " + f.getType(), "public static final int");
                seen.add(f.getName() + "=" + f.getInt(null));
            } else {
                CHECK.dueText("the field " + f.getName(), Modifier.isPrivate(f.getModifiers()) ? "private" : "seen", "private");
            }
        }
        CHECK.dueText("the constants", seen.toString(), CONSTANTS);
    }
}

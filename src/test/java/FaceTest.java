import java.lang.reflect.Constructor;
import java.lang.reflect.Field;
import java.lang.reflect.Member;
import java.lang.reflect.Method;
import java.lang.reflect.Modifier;
import java.util.List;
import java.util.StringJoiner;
import java.util.TreeSet;

/** "The public face" of the document, and what LANGUAGE.md asks of the members behind it. */
public final class FaceTest {
    private static final String INDEX = "IndexOutOfBoundsException";
    private static final String ARGUMENT = "IllegalArgumentException";
    private static final String STATE = "IllegalStateException";
    private static final String INDEX_ARGUMENT = " throws " + INDEX + ", " + ARGUMENT;
    private static final int MOST_CLASSES = 12;
    private static final int MOST_FIELDS = 20;
    private static final int MOST_PARAMETERS = 7;
    private static final List<String> METHODS = List.of(
        "public int glide(int, int, int)" + INDEX_ARGUMENT,
        "public int thaw()",
        "public int hole(int, int) throws " + INDEX + ", " + STATE,
        "public int pay(int, int)" + INDEX_ARGUMENT + ", " + STATE,
        "public int set(int, int)" + INDEX_ARGUMENT,
        "public int append(int) throws " + ARGUMENT + ", " + STATE,
        "public int clearBuffer()",
        "public int firstError()",
        "public int play() throws " + ARGUMENT,
        "public int keep()",
        "public int goBack() throws " + STATE,
        "public int undo() throws " + STATE,
        "public int cell(int, int, int)" + INDEX_ARGUMENT,
        "public int line(int, int, int, int)" + INDEX_ARGUMENT,
        "public int skater(int, int)" + INDEX_ARGUMENT,
        "public int rink(int, int)" + INDEX_ARGUMENT,
        "public int count(int) throws " + ARGUMENT,
        "public int setting(int) throws " + INDEX,
        "public int why(int, int)" + INDEX_ARGUMENT,
        "public int ifGlided(int, int, int, int)" + INDEX_ARGUMENT,
        "public int best(int) throws " + INDEX,
        "public int calm()",
        "public double ownedShare()",
        "public float meanRink()",
        "public long digest()");

    private static final Check CHECK = new Check();

    private static boolean isShown(Member member) {
        return !Modifier.isPrivate(member.getModifiers()) && !member.isSynthetic();
    }

    private static String listed(Class<?>[] types) {
        StringJoiner names = new StringJoiner(", ");
        for (Class<?> type : types) {
            names.add(type.getSimpleName());
        }
        return names.toString();
    }

    private static String lineOf(Method method) {
        String thrown = listed(method.getExceptionTypes());
        return Modifier.toString(method.getModifiers()) + " " + method.getReturnType().getSimpleName() + " "
                + method.getName() + "(" + listed(method.getParameterTypes()) + ")"
                + (thrown.isEmpty() ? "" : " throws " + thrown);
    }

    private static void methods() {
        TreeSet<String> missing = new TreeSet<>(METHODS);
        for (Method method : CarvedRinks.class.getDeclaredMethods()) {
            if (isShown(method) && !missing.remove(lineOf(method))) {
                CHECK.tell("not in the face: " + lineOf(method));
            }
        }
        for (String line : missing) {
            CHECK.tell("missing in the face: " + line);
        }
    }

    private static void classItself() {
        CHECK.same("the class", "public final", Modifier.toString(CarvedRinks.class.getModifiers()));
        CHECK.same("its package", "", CarvedRinks.class.getPackageName());
        CHECK.same("above it", "class java.lang.Object", CarvedRinks.class.getSuperclass().toString());
        CHECK.same("its interfaces", 0, CarvedRinks.class.getInterfaces().length);
        Constructor<?>[] constructors = CarvedRinks.class.getDeclaredConstructors();
        CHECK.same("its constructors", 1, constructors.length);
        CHECK.same("the constructor", "public CarvedRinks()", constructors[0].toString());
    }

    private static void constants() {
        TreeSet<String> shown = new TreeSet<>();
        for (Field field : CarvedRinks.class.getDeclaredFields()) {
            if (isShown(field)) {
                shown.add(field.toString());
            }
        }
        CHECK.same("the constants", "[public static final int CarvedRinks.NONE]", shown.toString());
        CHECK.same("NONE", -1, CarvedRinks.NONE);
    }

    private static boolean isFaceName(String name) {
        return METHODS.stream().anyMatch(line -> line.contains(" " + name + "("));
    }

    /** LANGUAGE.md, rules 1, 6 and 11: of the private methods and of those of the classes inside. */
    private static void methodsBehind(Class<?> type) {
        for (Method method : type.getDeclaredMethods()) {
            String name = method.getName();
            boolean isOfFace = type == CarvedRinks.class && isShown(method);
            if (!isOfFace && isFaceName(name)) {
                CHECK.tell("rule 1: a method inside bears a name of the face: " + method);
            }
            if (List.of("equals", "hashCode", "toString").contains(name)) {
                CHECK.tell("rule 6: a method of its own: " + method);
            }
            if (method.getParameterCount() > MOST_PARAMETERS) {
                CHECK.tell("rule 11: more than seven parameters: " + method);
            }
        }
    }

    /** LANGUAGE.md, rules 5 and 11. */
    private static void fieldsBehind(Class<?> type) {
        int own = 0;
        for (Field field : type.getDeclaredFields()) {
            if (!Modifier.isStatic(field.getModifiers())) {
                own++;
            } else if (!Modifier.isFinal(field.getModifiers())) {
                CHECK.tell("rule 5: a static field that is not final: " + field);
            }
        }
        if (own > MOST_FIELDS) {
            CHECK.tell("rule 11: more than twenty fields: " + type);
        }
    }

    private static void classesInside() {
        Class<?>[] inside = CarvedRinks.class.getDeclaredClasses();
        for (Class<?> type : inside) {
            int modifiers = type.getModifiers();
            if (Modifier.isPublic(modifiers) || Modifier.isProtected(modifiers) || !Modifier.isStatic(modifiers)) {
                CHECK.tell("rule 1: a class inside is shown or not static: " + type);
            }
            methodsBehind(type);
            fieldsBehind(type);
        }
        if (inside.length + 1 > MOST_CLASSES) {
            CHECK.tell("rule 11: more than twelve classes");
        }
    }

    public static void main(String[] args) {
        classItself();
        constants();
        methods();
        methodsBehind(CarvedRinks.class);
        fieldsBehind(CarvedRinks.class);
        classesInside();
        CHECK.end();
    }
}

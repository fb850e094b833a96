import java.lang.reflect.Constructor;
import java.lang.reflect.Field;
import java.lang.reflect.Member;
import java.lang.reflect.Method;
import java.lang.reflect.Modifier;
import java.util.Arrays;
import java.util.Set;
import java.util.TreeSet;
import java.util.stream.Collectors;

/** The public face: every member that the document names, and no other that can be seen. */
public final class FaceTest {
    private static final Checks CHECKS = new Checks();
    private static final String SECTION = "The public face";
    private static final Set<String> CONSTANTS = Set.of("NONE", "NUMBER", "TRUTH", "FUNCTION", "LETTER");

    private FaceTest() {
    }

    public static void main(String[] args) throws ReflectiveOperationException {
        theClass();
        noneAndItsValue();
        formsAndTheirValues();
        members();
        innerClasses();
        CHECKS.end("FaceTest");
    }

    private static void theClass() {
        CHECKS.sentence(SECTION, "public final class MarkDesk {");
        CHECKS.due("modifiers", MarkDesk.class.getModifiers(), Modifier.PUBLIC | Modifier.FINAL);
    }

    private static void noneAndItsValue() throws ReflectiveOperationException {
        CHECKS.sentence(SECTION, "public static final int NONE = -1;");
        dueConstant("NONE", -1);
    }

    private static void formsAndTheirValues() throws ReflectiveOperationException {
        CHECKS.sentence(SECTION, "public static final int NUMBER = 0, TRUTH = 1, FUNCTION = 2, LETTER = 3;");
        dueConstant("NUMBER", 0);
        dueConstant("TRUTH", 1);
        dueConstant("FUNCTION", 2);
        dueConstant("LETTER", 3);
    }

    private static void dueConstant(String name, int value) throws ReflectiveOperationException {
        Field constant = MarkDesk.class.getField(name);
        CHECKS.due(name, constant.getInt(null), value);
        CHECKS.due(name + "'s modifiers", constant.getModifiers(), Modifier.PUBLIC | Modifier.STATIC | Modifier.FINAL);
    }

    /** Each line of the face by itself, and that there is nothing beside them. */
    private static void members() {
        String argument = "IllegalArgumentException";
        String state = "IllegalStateException";
        String element = "java.util.NoSuchElementException";
        String index = "IndexOutOfBoundsException";
        String[] due = {
            "public MarkDesk();",
            "public int make(int kind, int a, int b, int c) throws " + argument + ", " + state + ";",
            "public int open(int term) throws " + element + ";",
            "public int work(int term, int fuel) throws " + element + ", " + index + ", " + argument + ", " + state
                    + ";",
            "public int value();", "public int steps();",
            "public int type(int term) throws " + element + ", " + argument + ";",
            "public int part(int path);", "public int count(int what);", "public float mean();"};
        TreeSet<String> visible = visibleMembers();
        for (String line : due) {
            CHECKS.sentence(SECTION, line);
            String withoutNames = line.replaceAll("int [a-z]+([,)])", "int$1");
            CHECKS.due("there is such a member", visible.remove(withoutNames) ? 1 : 0, 1);
        }
        CHECKS.dueText("other visible members", visible.toString(), "[]");
    }

    private static TreeSet<String> visibleMembers() {
        TreeSet<String> visible = new TreeSet<>();
        for (Constructor<?> constructor : MarkDesk.class.getDeclaredConstructors()) {
            if (isVisible(constructor)) {
                visible.add(Modifier.toString(constructor.getModifiers()) + " MarkDesk"
                        + inBrackets(constructor.getParameterTypes()) + thrown(constructor.getExceptionTypes()));
            }
        }
        for (Method method : MarkDesk.class.getDeclaredMethods()) {
            if (isVisible(method)) {
                visible.add(Modifier.toString(method.getModifiers()) + " " + method.getReturnType().getName() + " "
                        + method.getName() + inBrackets(method.getParameterTypes())
                        + thrown(method.getExceptionTypes()));
            }
        }
        for (Field field : MarkDesk.class.getDeclaredFields()) {
            if (isVisible(field) && !CONSTANTS.contains(field.getName())) {
                visible.add(field.toString());
            }
        }
        return visible;
    }

    private static void innerClasses() {
        CHECKS.sentence(SECTION, "public final class MarkDesk {");
        for (Class<?> inner : MarkDesk.class.getDeclaredClasses()) {
            int modifiers = inner.getModifiers();
            CHECKS.dueText("hidden and static: " + inner.getSimpleName(),
                    Modifier.isStatic(modifiers) + " " + Modifier.isPublic(modifiers) + " "
                            + Modifier.isProtected(modifiers), "true false false");
        }
    }

    private static boolean isVisible(Member member) {
        return !Modifier.isPrivate(member.getModifiers()) && !member.isSynthetic();
    }

    private static String inBrackets(Class<?>[] types) {
        return "(" + listed(types) + ")";
    }

    private static String thrown(Class<?>[] types) {
        return types.length == 0 ? ";" : " throws " + listed(types) + ";";
    }

    private static String listed(Class<?>[] types) {
        return Arrays.stream(types).map(type -> type.getName().replace("java.lang.", ""))
                .collect(Collectors.joining(", "));
    }
}

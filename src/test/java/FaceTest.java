import java.lang.reflect.Constructor;
import java.lang.reflect.Field;
import java.lang.reflect.Member;
import java.lang.reflect.Method;
import java.lang.reflect.Modifier;
import java.util.Arrays;
import java.util.TreeSet;

/** The public face: every member that the document names, and no other that can be seen. */
public final class FaceTest {
    public static void main(String[] args) throws ReflectiveOperationException {
        Checks checks = new Checks();
        checks.due("public final", MarkDesk.class.getModifiers(), Modifier.PUBLIC | Modifier.FINAL);
        checks.dueText("visible members", visibleMembers().toString(), new TreeSet<>(Arrays.asList(
                "int NONE", "int NUMBER", "int TRUTH", "int FUNCTION", "int LETTER",
                "MarkDesk()", "int make(int, int, int, int)", "int open(int)", "int work(int, int)", "int value()",
                "int steps()", "int type(int)", "int part(int)", "int count(int)", "float mean()")).toString());
        constants(checks);
        for (Class<?> inner : MarkDesk.class.getDeclaredClasses()) {
            int modifiers = inner.getModifiers();
            checks.dueText("hidden and static: " + inner.getSimpleName(),
                    Modifier.isStatic(modifiers) + " " + Modifier.isPublic(modifiers) + " "
                            + Modifier.isProtected(modifiers), "true false false");
        }
        checks.end("FaceTest");
    }

    private static void constants(Checks checks) throws ReflectiveOperationException {
        String[] names = {"NONE", "NUMBER", "TRUTH", "FUNCTION", "LETTER"};
        int[] values = {-1, 0, 1, 2, 3};
        for (int i = 0; i < names.length; i++) {
            Field constant = MarkDesk.class.getField(names[i]);
            checks.due(names[i], constant.getInt(null), values[i]);
            checks.due(names[i] + "'s modifiers", constant.getModifiers(),
                    Modifier.PUBLIC | Modifier.STATIC | Modifier.FINAL);
        }
    }

    private static TreeSet<String> visibleMembers() {
        TreeSet<String> visible = new TreeSet<>();
        for (Field field : MarkDesk.class.getDeclaredFields()) {
            if (isVisible(field)) {
                visible.add(field.getType().getName() + " " + field.getName());
            }
        }
        for (Constructor<?> constructor : MarkDesk.class.getDeclaredConstructors()) {
            if (isVisible(constructor)) {
                visible.add("MarkDesk" + inBrackets(constructor.getParameterTypes()));
            }
        }
        for (Method method : MarkDesk.class.getDeclaredMethods()) {
            if (isVisible(method)) {
                visible.add(method.getReturnType().getName() + " " + method.getName()
                        + inBrackets(method.getParameterTypes()));
            }
        }
        return visible;
    }

    private static boolean isVisible(Member member) {
        return !Modifier.isPrivate(member.getModifiers()) && !member.isSynthetic();
    }

    private static String inBrackets(Class<?>[] types) {
        String text = Arrays.toString(types);
        return "(" + text.substring(1, text.length() - 1) + ")";
    }
}

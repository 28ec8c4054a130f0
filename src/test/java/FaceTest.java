import java.lang.reflect.Constructor;
import java.lang.reflect.Field;
import java.lang.reflect.Method;
import java.lang.reflect.Modifier;
import java.util.Set;
import java.util.TreeSet;

/** The class shows the document's face, each call with the exceptions of its heading, and nothing more. */
public final class FaceTest {
    private static final String[] FACE = {
        "PrimeCurveSigner() throws []",
        "int curve(int, int, int) throws [IllegalArgumentException]",
        "int order() throws []",
        "void load(int, int, int) throws [IllegalStateException, IndexOutOfBoundsException, IllegalArgumentException]",
        "void base(int) throws [IllegalStateException, IndexOutOfBoundsException]",
        "void sum(int, int, int) throws [IllegalStateException, IndexOutOfBoundsException]",
        "void times(int, int, int) throws [IllegalStateException, IndexOutOfBoundsException]",
        "int x(int) throws [IndexOutOfBoundsException]",
        "int y(int) throws [IndexOutOfBoundsException]",
        "long code(int, boolean) throws [IndexOutOfBoundsException]",
        "void decode(int, int, long) throws [IllegalStateException, IndexOutOfBoundsException, IllegalArgumentException]",
        "void key(int, int) throws [IllegalStateException, IndexOutOfBoundsException, IllegalArgumentException]",
        "long sign(long) throws [IllegalStateException, ArithmeticException]",
        "int draws() throws []",
        "boolean verify(int, long, int, int) throws [IllegalStateException, IndexOutOfBoundsException]",
        "boolean accepts(int, long, long, int, int) throws [IllegalStateException]"
    };

    public static void main(String[] args) {
        Set<String> want = new TreeSet<>(Set.of(FACE));
        Set<String> got = shown();
        int modifiers = PrimeCurveSigner.class.getModifiers();
        boolean right = got.equals(want) && Modifier.isPublic(modifiers) && Modifier.isFinal(modifiers);
        if (!right) {
            System.out.println("the face is " + got + "\ndue is " + want);
            System.exit(1);
        }
        System.out.println("the face is the document's");
    }

    private static Set<String> shown() {
        Set<String> members = new TreeSet<>();
        Set<String> hidden = new TreeSet<>();
        for (Constructor<?> each : PrimeCurveSigner.class.getDeclaredConstructors()) {
            members.add("PrimeCurveSigner" + list(each.getParameterTypes(), "(", ")")
                + " throws " + list(each.getExceptionTypes(), "[", "]"));
        }
        for (Method each : PrimeCurveSigner.class.getDeclaredMethods()) {
            if (Modifier.isPrivate(each.getModifiers())) {
                hidden.add(each.getName());
            } else {
                members.add(each.getReturnType().getSimpleName() + " " + each.getName()
                    + list(each.getParameterTypes(), "(", ")") + " throws " + list(each.getExceptionTypes(), "[", "]"));
            }
        }
        for (Method each : PrimeCurveSigner.class.getDeclaredMethods()) {
            if (!Modifier.isPrivate(each.getModifiers()) && hidden.contains(each.getName())) {
                members.add("a private method that bears the name " + each.getName());
            }
        }
        for (Field each : PrimeCurveSigner.class.getDeclaredFields()) {
            if (!Modifier.isPrivate(each.getModifiers())) {
                members.add("field " + each.getName());
            }
        }
        return members;
    }

    private static String list(Class<?>[] types, String open, String close) {
        StringBuilder text = new StringBuilder(open);
        for (int i = 0; i < types.length; i++) {
            text.append(i == 0 ? "" : ", ").append(types[i].getSimpleName());
        }
        return text.append(close).toString();
    }
}

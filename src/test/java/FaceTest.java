import java.lang.reflect.Constructor;
import java.lang.reflect.Field;
import java.lang.reflect.Method;
import java.lang.reflect.Modifier;
import java.util.Arrays;
import java.util.TreeSet;

/** The face of the class is that of the document, and nothing else can be seen of it. */
public final class FaceTest {
    private static final String OUT = "IndexOutOfBoundsException";
    private static final String WRONG = "IllegalArgumentException";
    private static final String STATE = "IllegalStateException";

    private static final String[] DUE = {
        "int lens(int, int, int, int) " + OUT + " " + WRONG + " " + STATE,
        "int stop(int, int) " + OUT + " " + WRONG + " " + STATE,
        "int take(int) " + OUT,
        "int move(int, int) " + OUT + " " + STATE,
        "int half(int, int) " + OUT + " " + WRONG,
        "int swap(int, int) " + OUT,
        "int thing(int) " + OUT + " " + STATE,
        "int screen(int) " + OUT + " " + STATE,
        "int tall(int) " + WRONG,
        "int rattle()",
        "int ofPiece(int, int) " + OUT + " " + WRONG,
        "double strength(int, int) " + OUT + " " + WRONG,
        "double ray(int, int, int, int) " + WRONG,
        "double table(int, int) " + WRONG,
        "double image(int, int) " + WRONG,
        "int many(int) " + WRONG,
        "int through(int) " + OUT,
        "String rail()",
        "double grasp()",
        "double blur(int) " + WRONG,
        "double apart()",
        "int sharp(int) " + WRONG,
        "int best(int, int) " + OUT + " " + WRONG,
        "int without(int) " + OUT,
        "long digest()"};

    public static void main(String[] args) {
        Check check = new Check("FaceTest");
        Class<?> face = Lensbench.class;
        check.text("class", Modifier.toString(face.getModifiers()), "public final");
        TreeSet<String> seen = new TreeSet<>();
        TreeSet<String> names = new TreeSet<>();
        for (Method method : face.getDeclaredMethods()) {
            if (!Modifier.isPrivate(method.getModifiers())) {
                seen.add(told(method));
                names.add(method.getName());
                check.text("modifiers of " + method.getName(), Modifier.toString(method.getModifiers()), "public");
            }
        }
        check.text("methods", seen.toString(), new TreeSet<>(Arrays.asList(DUE)).toString());
        for (Field field : face.getDeclaredFields()) {
            check.text("field " + field.getName(), hidden(field.getModifiers()), "private");
        }
        Constructor<?>[] made = face.getDeclaredConstructors();
        check.whole("constructors", made.length, 1);
        check.text("constructor", made[0].toString(), "public Lensbench()");
        for (Method method : face.getDeclaredMethods()) {
            boolean bearsAName = Modifier.isPrivate(method.getModifiers()) && names.contains(method.getName());
            check.text("private " + method.getName(), bearsAName ? "bears a public name" : "", "");
        }
        check.end();
    }

    private static String hidden(int modifiers) {
        return Modifier.isPrivate(modifiers) ? "private" : "seen";
    }

    private static String told(Method method) {
        StringBuilder text = new StringBuilder();
        text.append(method.getReturnType().getSimpleName()).append(' ').append(method.getName()).append('(');
        Class<?>[] taken = method.getParameterTypes();
        for (int i = 0; i < taken.length; i++) {
            text.append(i == 0 ? "" : ", ").append(taken[i].getSimpleName());
        }
        text.append(')');
        for (Class<?> thrown : method.getExceptionTypes()) {
            text.append(' ').append(thrown.getSimpleName());
        }
        return text.toString();
    }
}

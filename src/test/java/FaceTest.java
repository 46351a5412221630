import java.lang.reflect.Constructor;
import java.lang.reflect.Field;
import java.lang.reflect.Member;
import java.lang.reflect.Method;
import java.lang.reflect.Modifier;
import java.util.Arrays;
import java.util.Set;
import java.util.TreeSet;

/** The public face of the document, and no member beside it that is not private. */
public final class FaceTest {
    private static final String[] METHODS = {
        "boolean type(long, int)", "boolean thing(int, int, int)", "boolean forget(int)",
        "int got(int, int, int, int)", "int answer(int) throws IllegalArgumentException", "int told(int)",
        "int row(int, boolean) throws NoSuchElementException",
        "int fetch(int, boolean) throws NoSuchElementException", "boolean set(int, int)",
        "int about(int, int)", "boolean held(int, int)",
    };

    public static void main(String[] args) {
        Check check = new Check();
        check.due("NONE", PieceShelf.NONE, -1);
        check.due("class modifiers", PieceShelf.class.getModifiers(), Modifier.PUBLIC | Modifier.FINAL);
        Set<String> found = new TreeSet<>();
        Set<String> secret = new TreeSet<>();
        for (Method m : PieceShelf.class.getDeclaredMethods()) {
            if (isPrivate(m)) {
                secret.add(m.getName());
            } else {
                check.due(m.getName() + " modifiers", m.getModifiers(), Modifier.PUBLIC);
                found.add(text(m));
            }
        }
        Set<String> want = new TreeSet<>(Arrays.asList(METHODS));
        check.due("methods " + found + " are " + want, found.equals(want), true);
        for (Method m : PieceShelf.class.getMethods()) {
            check.due("no private method is called " + m.getName(), secret.contains(m.getName()), false);
        }
        for (Field f : PieceShelf.class.getDeclaredFields()) {
            check.due("field " + f.getName(), isPrivate(f) || f.getName().equals("NONE"), true);
        }
        Constructor<?>[] made = PieceShelf.class.getDeclaredConstructors();
        check.due("constructors", made.length, 1);
        check.due("constructor's parameters", made[0].getParameterCount(), 0);
        check.due("constructor modifiers", made[0].getModifiers(), Modifier.PUBLIC);
        check.end();
    }

    private static boolean isPrivate(Member m) {
        return Modifier.isPrivate(m.getModifiers());
    }

    private static String text(Method m) {
        String s = m.getReturnType().getSimpleName() + " " + m.getName() + names(m.getParameterTypes(), "(", ")");
        return m.getExceptionTypes().length == 0 ? s : s + names(m.getExceptionTypes(), " throws ", "");
    }

    private static String names(Class<?>[] types, String before, String behind) {
        StringBuilder b = new StringBuilder(before);
        for (int k = 0; k < types.length; k++) {
            b.append(k == 0 ? "" : ", ").append(types[k].getSimpleName());
        }
        return b.append(behind).toString();
    }
}

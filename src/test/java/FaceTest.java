import java.lang.reflect.Constructor;
import java.lang.reflect.Field;
import java.lang.reflect.Method;
import java.lang.reflect.Modifier;
import java.util.Arrays;
import java.util.Set;
import java.util.TreeSet;

/** The public face is that of the document and nothing besides it can be seen. */
public final class FaceTest {
    private static final String[] FACE = {
        "int feed(int, int, int, int, int)",
        "int register(int) IllegalArgumentException",
        "int fault()",
        "int count(int) NoSuchElementException",
        "int mark(int, int) NoSuchElementException",
        "int letter(int, int, boolean) NoSuchElementException",
        "int used(int, int, int) NoSuchElementException",
        "int two(int, int, int) NoSuchElementException",
        "int steps(int, int) NoSuchElementException",
        "int here(int, int, int, int) NoSuchElementException IllegalArgumentException",
        "int halves(int, int, int) NoSuchElementException IllegalArgumentException",
        "int holders(int, int) NoSuchElementException IllegalArgumentException",
        "int shared(int) IllegalArgumentException",
        "int refused(int, int) NoSuchElementException IllegalArgumentException",
        "int firstDay(int, int) NoSuchElementException",
        "int would(int, int, int, int) NoSuchElementException IllegalArgumentException",
        "int free(int, int) IllegalArgumentException",
        "int letterFor(int, int) NoSuchElementException IllegalArgumentException",
        "int group(int) NoSuchElementException",
        "int ranked(int, int, int) NoSuchElementException IllegalArgumentException",
        "int file(int, int, int) IllegalArgumentException",
        "int use(int, int, int, int) NoSuchElementException IllegalArgumentException",
        "boolean consent(int, int, boolean) NoSuchElementException",
        "int drop(int) NoSuchElementException",
        "int rule(int, int) NoSuchElementException IllegalArgumentException",
        "boolean near(int, int, boolean) NoSuchElementException",
        "int undo()",
        "void image()",
        "boolean back()",
        "int ask(int, int) IllegalArgumentException",
    };
    private static int wrong = 0;

    private static void due(String what, Object got, Object want) {
        if (!got.equals(want)) {
            wrong++;
            System.out.println(what + ": is " + got + ", due is " + want);
        }
    }

    private static String told(Method method) {
        StringBuilder text = new StringBuilder();
        text.append(method.getReturnType().getSimpleName()).append(' ');
        text.append(method.getName()).append('(');
        String comma = "";
        for (Class<?> type : method.getParameterTypes()) {
            text.append(comma).append(type.getSimpleName());
            comma = ", ";
        }
        text.append(')');
        for (Class<?> type : method.getExceptionTypes()) {
            text.append(' ').append(type.getSimpleName());
        }
        return text.toString();
    }

    public static void main(String[] args) {
        due("the class", Modifier.toString(MarkField.class.getModifiers()), "public final");
        Set<String> open = new TreeSet<>();
        Set<String> openNames = new TreeSet<>();
        for (Method method : MarkField.class.getDeclaredMethods()) {
            if (!Modifier.isPrivate(method.getModifiers())) {
                due("modifiers of " + method, Modifier.toString(method.getModifiers()), "public");
                open.add(told(method));
                openNames.add(method.getName());
            }
        }
        due("the methods", open, new TreeSet<>(Arrays.asList(FACE)));
        for (Method method : MarkField.class.getDeclaredMethods()) {
            if (Modifier.isPrivate(method.getModifiers())) {
                due("a private " + method, openNames.contains(method.getName()), false);
            }
        }
        Set<String> fields = new TreeSet<>();
        for (Field field : MarkField.class.getDeclaredFields()) {
            if (!Modifier.isPrivate(field.getModifiers())) {
                fields.add(Modifier.toString(field.getModifiers()) + ' ' + field.getName());
            }
        }
        due("the constants", fields.toString(),
                "[public static final HIDDEN, public static final NONE]");
        Constructor<?>[] makers = MarkField.class.getDeclaredConstructors();
        due("the constructors", makers.length, 1);
        due("its parameters", makers[0].getParameterCount(), 0);
        due("NONE", MarkField.NONE, -1);
        due("HIDDEN", MarkField.HIDDEN, -1000000000);
        for (Class<?> inside : MarkField.class.getDeclaredClasses()) {
            due("static " + inside, Modifier.isStatic(inside.getModifiers()), true);
        }
        System.out.println(wrong == 0 ? "the face is as due" : wrong + " wrong");
        System.exit(wrong == 0 ? 0 : 1);
    }
}

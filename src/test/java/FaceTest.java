import java.lang.reflect.Constructor;
import java.lang.reflect.Field;
import java.lang.reflect.Method;
import java.lang.reflect.Modifier;
import java.util.Arrays;
import java.util.Set;
import java.util.TreeSet;

/** The public face: just the document's constants, constructor and methods, and no more. */
public final class FaceTest {
    private static final String[] FACE = {
        "int object(int) IllegalArgumentException",
        "int call(int,int,int,int,int) IllegalArgumentException IllegalStateException",
        "void back(int,int) IllegalArgumentException IllegalStateException",
        "void lose(int) IllegalArgumentException IllegalStateException",
        "int clear()",
        "int events()",
        "int possibilities(int) IllegalArgumentException",
        "int judge(int) IllegalArgumentException",
        "int judgeOwn(int) IllegalArgumentException",
        "long ways(int) IllegalArgumentException",
        "int lasts(int) IllegalArgumentException",
        "int broken(int) IllegalArgumentException",
        "int linear()",
        "int length() IllegalStateException",
        "int row(int) IllegalStateException IndexOutOfBoundsException",
        "int result(int) IllegalStateException IndexOutOfBoundsException",
    };

    public static void main(String[] args) {
        Check check = new Check();
        Class<?> type = LinearHistories.class;
        check.due("the class's modifiers", type.getModifiers(), Modifier.PUBLIC | Modifier.FINAL);
        constants(check);
        constructors(check, type);
        methods(check, type);
        check.end();
    }

    private static void constants(Check check) {
        check.due("NOTHING", LinearHistories.NOTHING, -2147483648L);
        check.due("NONE", LinearHistories.NONE, -1);
        check.due("MANY", LinearHistories.MANY, -2);
        Set<String> seen = new TreeSet<>();
        for (Field field : LinearHistories.class.getDeclaredFields()) {
            if (!Modifier.isPrivate(field.getModifiers())) {
                seen.add(Modifier.toString(field.getModifiers()) + " " + field.getType() + " " + field.getName());
            }
        }
        check.isTrue("the visible fields are the constants: " + seen, seen.equals(new TreeSet<>(Arrays.asList(
            "public static final int NOTHING", "public static final int NONE", "public static final int MANY"))));
    }

    private static void constructors(Check check, Class<?> type) {
        Constructor<?>[] all = type.getDeclaredConstructors();
        check.due("how many constructors", all.length, 1);
        check.due("the constructor's modifiers", all[0].getModifiers(), Modifier.PUBLIC);
        check.due("the constructor's parameters", all[0].getParameterCount(), 0);
    }

    private static void methods(Check check, Class<?> type) {
        Set<String> seen = new TreeSet<>();
        Set<String> names = new TreeSet<>();
        Set<String> hidden = new TreeSet<>();
        for (Method method : type.getDeclaredMethods()) {
            if (Modifier.isPrivate(method.getModifiers())) {
                hidden.add(method.getName());
                continue;
            }
            names.add(method.getName());
            check.due(method.getName() + " modifiers", method.getModifiers(), Modifier.PUBLIC);
            seen.add(line(method));
        }
        check.isTrue("the methods are the document's: " + seen, seen.equals(new TreeSet<>(Arrays.asList(FACE))));
        hidden.retainAll(names);
        check.isTrue("no private method bears the name of a public one: " + hidden, hidden.isEmpty());
    }

    private static String line(Method method) {
        StringBuilder text = new StringBuilder();
        text.append(method.getReturnType()).append(' ').append(method.getName()).append('(');
        for (int i = 0; i < method.getParameterCount(); i++) {
            text.append(i == 0 ? "" : ",").append(method.getParameterTypes()[i]);
        }
        text.append(')');
        for (Class<?> thrown : method.getExceptionTypes()) {
            text.append(' ').append(thrown.getSimpleName());
        }
        return text.toString();
    }
}

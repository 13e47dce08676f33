import java.lang.reflect.Constructor;
import java.lang.reflect.Field;
import java.lang.reflect.Method;
import java.lang.reflect.Modifier;
import java.util.Set;
import java.util.TreeSet;

/** The face of the document: every member that it names, with its exceptions, and no other one. */
public final class FaceTest {
    private static final String[] FACE = {
        "int feed(int, long) IllegalArgumentException",
        "int wipe()",
        "boolean read(int, int, int) IllegalArgumentException ArithmeticException",
        "void put(int, int, long) IllegalArgumentException",
        "long told(int, int, int) IllegalArgumentException ArithmeticException",
        "int compare(int, int, int) IllegalArgumentException ArithmeticException",
        "void whole(int, int, int, int) IllegalArgumentException ArithmeticException",
        "void wholeBy(int, int, int, int) IllegalArgumentException ArithmeticException",
        "void powerModulo(int, int, int, int) IllegalArgumentException ArithmeticException",
        "void decimal(int, int, int, int) IllegalArgumentException ArithmeticException",
        "void decimalBy(int, int, int, int) IllegalArgumentException ArithmeticException",
        "void divide(int, int, int, int, int) IllegalArgumentException ArithmeticException",
        "void quotient(int, int, int, int, int) IllegalArgumentException ArithmeticException",
        "void shape(int, int, int, int, int) IllegalArgumentException ArithmeticException",
        "void convert(int, int, int, int) IllegalArgumentException ArithmeticException",
        "int print(int, int, int) IllegalArgumentException",
        "int figures(int, int, boolean, int, int) IllegalArgumentException ArithmeticException",
        "int argument(int, int) IllegalArgumentException ArithmeticException IllegalStateException",
        "int format() IllegalStateException",
        "long paperAt(int)",
    };

    public static void main(String[] args) {
        Class<?> face = NumberHouse.class;
        House.due("the class", Modifier.toString(face.getModifiers()), "public final");
        Set<String> want = new TreeSet<>();
        for (String method : FACE) {
            want.add(method);
        }
        Set<String> names = new TreeSet<>();
        Set<String> got = new TreeSet<>();
        for (Method method : face.getDeclaredMethods()) {
            if (!Modifier.isPrivate(method.getModifiers())) {
                House.due(method + " is public alone", Modifier.toString(method.getModifiers()), "public");
                got.add(told(method));
                names.add(method.getName());
            }
        }
        House.due("the methods", got, want);
        for (Method method : face.getDeclaredMethods()) {
            if (Modifier.isPrivate(method.getModifiers())) {
                House.due("a private " + method.getName(), names.contains(method.getName()), false);
            }
        }
        for (Constructor<?> constructor : face.getDeclaredConstructors()) {
            House.due("the constructor", constructor.toString(), "public NumberHouse()");
        }
        members(face);
        House.end();
    }

    private static void members(Class<?> face) {
        for (Field field : face.getDeclaredFields()) {
            String modifiers = Modifier.toString(field.getModifiers());
            String due = field.getName().equals("NONE") ? "public static final" : null;
            boolean good = due == null ? modifiers.startsWith("private") : modifiers.equals(due);
            House.due("the field " + field.getName(), good, true);
        }
        House.due("the value of NONE", NumberHouse.NONE, -1);
        for (Class<?> inside : face.getDeclaredClasses()) {
            House.due("the class " + inside, Modifier.toString(inside.getModifiers()), "private static final");
            for (Field field : inside.getDeclaredFields()) {
                boolean changes = Modifier.isStatic(field.getModifiers()) && !Modifier.isFinal(field.getModifiers());
                House.due("static state in " + field, changes, false);
            }
        }
    }

    private static String told(Method method) {
        StringBuilder text = new StringBuilder(method.getReturnType().getSimpleName());
        text.append(' ').append(method.getName()).append('(');
        String between = "";
        for (Class<?> type : method.getParameterTypes()) {
            text.append(between).append(type.getSimpleName());
            between = ", ";
        }
        text.append(')');
        for (Class<?> type : method.getExceptionTypes()) {
            text.append(' ').append(type.getSimpleName());
        }
        return text.toString();
    }
}

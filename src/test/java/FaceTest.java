import java.lang.reflect.Constructor;
import java.lang.reflect.Field;
import java.lang.reflect.Method;
import java.lang.reflect.Modifier;
import java.util.Arrays;
import java.util.Set;
import java.util.TreeSet;

/** The class shows the document's face and nothing more (LANGUAGE.md, rule 1). */
public final class FaceTest {
    private static final Set<String> FACE = new TreeSet<>(Arrays.asList(
            "int feed(int, int, int, int, int)",
            "int statutes(int)",
            "int fault(int)",
            "int giver()",
            "int gift(int, int)",
            "boolean support(int, int)",
            "int child(int, int, int, int)",
            "int fill()",
            "int year()",
            "int feast()",
            "int legacy(int, int)",
            "boolean need(int, int)",
            "int owed(int, int)",
            "int pay()",
            "int look(int, int) throws IndexOutOfBoundsException NoSuchElementException",
            "int coat(int, int)",
            "int count(int)"));

    public static void main(String[] args) {
        Check.due("the class is public and final", Modifier.PUBLIC | Modifier.FINAL, BlueCoats.class.getModifiers());
        methods();
        fields();
        constructors();
        nestedClasses();
        Check.end();
    }

    private static void methods() {
        Set<String> shown = new TreeSet<>();
        for (Method method : BlueCoats.class.getDeclaredMethods()) {
            if (Modifier.isPublic(method.getModifiers())) {
                shown.add(signature(method));
            } else {
                Check.due(method + " is private", true, Modifier.isPrivate(method.getModifiers()));
                Check.due(method + " bears no public name", false, bearsPublicName(method));
            }
        }
        if (!shown.equals(FACE)) {
            System.out.println("shown: " + shown);
        }
        Check.due("the public methods are the document's", true, shown.equals(FACE));
    }

    private static boolean bearsPublicName(Method method) {
        for (String face : FACE) {
            if (face.contains(" " + method.getName() + "(")) {
                return true;
            }
        }
        return false;
    }

    private static String signature(Method method) {
        StringBuilder text = new StringBuilder(method.getReturnType().getSimpleName());
        text.append(' ').append(method.getName()).append('(');
        String between = "";
        for (Class<?> type : method.getParameterTypes()) {
            text.append(between).append(type.getSimpleName());
            between = ", ";
        }
        text.append(')');
        between = " throws ";
        for (Class<?> type : method.getExceptionTypes()) {
            text.append(between).append(type.getSimpleName());
            between = " ";
        }
        return text.toString();
    }

    private static void fields() {
        Check.due("NONE", -1, BlueCoats.NONE);
        for (Field field : BlueCoats.class.getDeclaredFields()) {
            boolean isNone = field.getName().equals("NONE");
            Check.due(field + " is private", !isNone, Modifier.isPrivate(field.getModifiers()));
            if (Modifier.isStatic(field.getModifiers())) {
                Check.due(field + " is final", true, Modifier.isFinal(field.getModifiers()));
            }
        }
    }

    private static void constructors() {
        Constructor<?>[] all = BlueCoats.class.getDeclaredConstructors();
        Check.due("constructors", 1, all.length);
        Check.due("the constructor is public", Modifier.PUBLIC, all[0].getModifiers());
        Check.due("the constructor's parameters", 0, all[0].getParameterCount());
    }

    private static void nestedClasses() {
        Class<?>[] inside = BlueCoats.class.getDeclaredClasses();
        Check.due("at most twelve classes", true, inside.length + 1 <= 12);
        for (Class<?> type : inside) {
            Check.due(type + " is static", true, Modifier.isStatic(type.getModifiers()));
            Check.due(type + " is private", true, Modifier.isPrivate(type.getModifiers()));
            for (Method method : type.getDeclaredMethods()) {
                Check.due(method + " bears no public name", false, bearsPublicName(method));
            }
        }
    }
}

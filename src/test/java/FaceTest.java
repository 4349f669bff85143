import java.lang.reflect.Constructor;
import java.lang.reflect.Field;
import java.lang.reflect.Method;
import java.lang.reflect.Modifier;
import java.util.Arrays;
import java.util.Set;
import java.util.TreeSet;

/** The face of the class: what the document lists, and nothing else that can be seen. */
public final class FaceTest {

    private static int wrong = 0;

    private static final String INDEX = "IndexOutOfBoundsException";
    private static final String ARGUMENT = "IllegalArgumentException";
    private static final String STATE = "IllegalStateException";

    private static void check(String what, Object got, Object want) {
        if (!want.equals(got)) {
            wrong++;
            System.out.println(what + ": got " + got + ", due is " + want);
        }
    }

    private static String signature(Method method) {
        StringBuilder text = new StringBuilder();
        text.append(method.getReturnType().getSimpleName()).append(' ').append(method.getName());
        for (Class<?> type : method.getParameterTypes()) {
            text.append(' ').append(type.getSimpleName());
        }
        for (Class<?> type : method.getExceptionTypes()) {
            text.append(" !").append(type.getSimpleName());
        }
        return text.toString();
    }

    private static Set<String> dueMethods() {
        return new TreeSet<>(Arrays.asList(
            "int setFifth int int !" + INDEX + " !" + ARGUMENT + " !" + STATE,
            "int shift int !" + INDEX,
            "int spread int !" + ARGUMENT,
            "int setOften int int !" + INDEX + " !" + ARGUMENT,
            "int setDrift int int !" + INDEX + " !" + ARGUMENT,
            "int tune int !" + INDEX + " !" + STATE,
            "int tuneAll",
            "int sweeten int !" + INDEX + " !" + STATE,
            "int pass int !" + ARGUMENT,
            "int fifth int int !" + INDEX,
            "int major int int !" + INDEX,
            "int minor int int !" + INDEX,
            "int note int int !" + INDEX,
            "int key int int !" + INDEX,
            "int count int !" + INDEX,
            "int foresee int int !" + ARGUMENT + " !" + INDEX,
            "int until int !" + ARGUMENT,
            "int advise",
            "int temper int !" + INDEX + " !" + STATE,
            "int next",
            "double mean",
            "long digest"));
    }

    private static void checkMethods() {
        Set<String> open = new TreeSet<>();
        Set<String> openNames = new TreeSet<>();
        Set<String> hiddenNames = new TreeSet<>();
        for (Method method : FifthBeats.class.getDeclaredMethods()) {
            int modifiers = method.getModifiers();
            if (method.isSynthetic()) {
                continue;
            }
            if (Modifier.isPublic(modifiers)) {
                check("static " + method.getName(), Modifier.isStatic(modifiers), false);
                open.add(signature(method));
                openNames.add(method.getName());
            } else {
                check("private " + method.getName(), Modifier.isPrivate(modifiers), true);
                hiddenNames.add(method.getName());
            }
        }
        check("public methods", open, dueMethods());
        hiddenNames.retainAll(openNames);
        check("private methods with a public name", hiddenNames, new TreeSet<String>());
    }

    private static void checkRest() {
        int modifiers = FifthBeats.class.getModifiers();
        check("public class", Modifier.isPublic(modifiers), true);
        check("final class", Modifier.isFinal(modifiers), true);
        check("package", FifthBeats.class.getPackageName(), "");
        check("super class", FifthBeats.class.getSuperclass(), Object.class);
        check("constructors", FifthBeats.class.getDeclaredConstructors().length, 1);
        for (Constructor<?> constructor : FifthBeats.class.getDeclaredConstructors()) {
            check("public constructor", Modifier.isPublic(constructor.getModifiers()), true);
            check("parameters", constructor.getParameterCount(), 0);
            check("exceptions", constructor.getExceptionTypes().length, 0);
        }
        for (Field field : FifthBeats.class.getDeclaredFields()) {
            check("private " + field.getName(), Modifier.isPrivate(field.getModifiers()), true);
            if (Modifier.isStatic(field.getModifiers())) {
                check("final " + field.getName(), Modifier.isFinal(field.getModifiers()), true);
            }
        }
        for (Class<?> inside : FifthBeats.class.getDeclaredClasses()) {
            check("static " + inside.getName(), Modifier.isStatic(inside.getModifiers()), true);
            check("public " + inside.getName(), Modifier.isPublic(inside.getModifiers()), false);
        }
    }

    public static void main(String[] args) {
        checkMethods();
        checkRest();
        System.out.println(wrong == 0 ? "the face is as due" : wrong + " members are not as due");
        if (wrong != 0) {
            System.exit(1);
        }
    }
}

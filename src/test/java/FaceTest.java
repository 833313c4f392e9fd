import java.lang.reflect.Constructor;
import java.lang.reflect.Field;
import java.lang.reflect.Method;
import java.lang.reflect.Modifier;
import java.util.Arrays;
import java.util.TreeSet;
import java.util.stream.Collectors;

/** The public face, and nothing beside it (LANGUAGE.md, rules 1, 5 and 11). */
public final class FaceTest {
    private static final String[] FACE = {
        "int pixel(int,int,int,int) IndexOutOfBounds IllegalArgument",
        "int match(int,int,int,int) IndexOutOfBounds",
        "int found(int) IndexOutOfBounds IllegalState",
        "int place() IllegalState",
        "boolean seen(int,int,int,int) IndexOutOfBounds IllegalArgument",
        "int relative(int,int,int,int) IndexOutOfBounds IllegalArgument",
        "int shift(int) IndexOutOfBounds IllegalState",
        "boolean spare(int,boolean) IndexOutOfBounds",
        "int run(int) IllegalArgument",
        "long sum()",
        "int at(int,int) IndexOutOfBounds",
        "int offset(int,int) IndexOutOfBounds",
        "long miss(int) IndexOutOfBounds",
        "int known(int,int,int) IndexOutOfBounds IllegalArgument IllegalState",
        "long scale(int) IndexOutOfBounds",
        "int heights(int,int,int) IndexOutOfBounds IllegalArgument",
        "int depth(int,int) IndexOutOfBounds IllegalState",
        "int holes(int) IllegalState",
        "int count(int) IndexOutOfBounds",
    };

    public static void main(String[] args) throws Exception {
        Checks checks = new Checks("FaceTest");
        Class<?> face = PhotoModels.class;
        checks.due("final", Modifier.isFinal(face.getModifiers()), true);
        checks.due("public", Modifier.isPublic(face.getModifiers()), true);
        // Read by name, as a constant would be that of the time when this test was compiled.
        checks.due("NONE", face.getField("NONE").getInt(null), -1);
        checks.due("NONE is an int", face.getField("NONE").getType() == int.class, true);
        checkMethods(checks, face);
        checkFields(checks, face);
        for (Constructor<?> each : face.getDeclaredConstructors()) {
            checks.due("constructor " + each,
                    Arrays.equals(each.getParameterTypes(), new Class<?>[] {int.class, int.class, int.class}), true);
            checks.due("constructor is public", Modifier.isPublic(each.getModifiers()), true);
            checks.due("constructor throws", each.getExceptionTypes().length, 0);
        }
        checks.due("constructors", face.getDeclaredConstructors().length, 1);
        for (Class<?> inside : face.getDeclaredClasses()) {
            checks.due(inside + " is static", Modifier.isStatic(inside.getModifiers()), true);
            checks.due(inside + " is public", Modifier.isPublic(inside.getModifiers()), false);
            checks.due(inside + " has few fields", inside.getDeclaredFields().length <= 20, true);
            checkMethodsInside(checks, face, inside);
            checkStaticFields(checks, inside);
        }
        checks.due("few classes", face.getDeclaredClasses().length < 12, true);
        checks.end();
    }

    private static void checkMethods(Checks checks, Class<?> face) {
        TreeSet<String> due = new TreeSet<>(Arrays.asList(FACE));
        TreeSet<String> got = new TreeSet<>();
        TreeSet<String> publicNames = new TreeSet<>();
        for (Method method : face.getDeclaredMethods()) {
            if (!Modifier.isPrivate(method.getModifiers())) {
                got.add(signature(method));
                publicNames.add(method.getName());
                checks.due(method + " is public", Modifier.isPublic(method.getModifiers()), true);
                checks.due(method + " is static", Modifier.isStatic(method.getModifiers()), false);
            }
        }
        checks.due("the face is " + got, got.equals(due), true);
        for (Method method : face.getDeclaredMethods()) {
            if (Modifier.isPrivate(method.getModifiers())) {
                checks.due(method + " bears a public name", publicNames.contains(method.getName()), false);
            }
        }
    }

    private static void checkFields(Checks checks, Class<?> face) {
        for (Field field : face.getDeclaredFields()) {
            boolean isNone = field.getName().equals("NONE");
            checks.due(field + " is public", Modifier.isPublic(field.getModifiers()), isNone);
            checks.due(field + " is private", Modifier.isPrivate(field.getModifiers()), !isNone);
        }
        checkStaticFields(checks, face);
    }

    private static void checkStaticFields(Checks checks, Class<?> each) {
        for (Field field : each.getDeclaredFields()) {
            if (Modifier.isStatic(field.getModifiers())) {
                checks.due(field + " is final", Modifier.isFinal(field.getModifiers()), true);
                checks.due(field + " is an int", field.getType() == int.class, true);
            }
        }
    }

    private static void checkMethodsInside(Checks checks, Class<?> face, Class<?> inside) {
        TreeSet<String> publicNames = new TreeSet<>();
        for (Method method : face.getMethods()) {
            if (method.getDeclaringClass() == face) {
                publicNames.add(method.getName());
            }
        }
        checks.due("public names", publicNames.size(), FACE.length);
        for (Method method : inside.getDeclaredMethods()) {
            checks.due(method + " bears a public name", publicNames.contains(method.getName()), false);
            checks.due(method + " has few parameters", method.getParameterCount() <= 7, true);
        }
    }

    private static String signature(Method method) {
        String parameters = Arrays.stream(method.getParameterTypes())
                .map(Class::getName).collect(Collectors.joining(","));
        String thrown = Arrays.stream(method.getExceptionTypes())
                .map(each -> " " + each.getSimpleName().replace("Exception", "")).collect(Collectors.joining());
        return method.getReturnType().getName() + " " + method.getName() + "(" + parameters + ")" + thrown;
    }
}

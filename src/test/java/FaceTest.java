import java.lang.reflect.Constructor;
import java.lang.reflect.Field;
import java.lang.reflect.Method;
import java.lang.reflect.Modifier;
import java.util.Arrays;
import java.util.TreeSet;
import java.util.stream.Collectors;

/** The public face, and nothing beside it (LANGUAGE.md, rules 1 and 5). */
public final class FaceTest {
    private static final String[] FACE = {
        "int pixel(int,int,int,int)", "int match(int,int,int,int)", "int found(int)", "int place()",
        "boolean seen(int,int,int,int)", "int relative(int,int,int,int)", "int shift(int)",
        "boolean spare(int,boolean)", "int run(int)", "long sum()", "int at(int,int)",
        "int offset(int,int)", "long miss(int)", "int known(int,int,int)", "long scale(int)",
        "int heights(int,int,int)", "int depth(int,int)", "int holes(int)", "int count(int)",
    };

    public static void main(String[] args) throws Exception {
        Checks checks = new Checks("FaceTest");
        Class<?> face = PhotoModels.class;
        checks.due("final", Modifier.isFinal(face.getModifiers()), true);
        checks.due("public", Modifier.isPublic(face.getModifiers()), true);
        checks.due("NONE", PhotoModels.NONE, -1);
        checkMethods(checks, face);
        checkFields(checks, face);
        for (Constructor<?> each : face.getDeclaredConstructors()) {
            checks.due("constructor " + each,
                    Arrays.equals(each.getParameterTypes(), new Class<?>[] {int.class, int.class, int.class}), true);
            checks.due("constructor is public", Modifier.isPublic(each.getModifiers()), true);
        }
        checks.due("constructors", face.getDeclaredConstructors().length, 1);
        for (Class<?> inside : face.getDeclaredClasses()) {
            checks.due(inside + " is static", Modifier.isStatic(inside.getModifiers()), true);
            checks.due(inside + " is public", Modifier.isPublic(inside.getModifiers()), false);
            checks.due(inside + " has few fields", inside.getDeclaredFields().length <= 20, true);
        }
        checks.due("few classes", face.getDeclaredClasses().length < 12, true);
        checks.end();
    }

    private static void checkMethods(Checks checks, Class<?> face) {
        TreeSet<String> due = new TreeSet<>(Arrays.asList(FACE));
        TreeSet<String> got = new TreeSet<>();
        TreeSet<String> publicNames = new TreeSet<>();
        for (Method method : face.getDeclaredMethods()) {
            if (!Modifier.isPrivate(method.getModifiers())) {
                got.add(signature(method));
                publicNames.add(method.getName());
                checks.due(method + " is public", Modifier.isPublic(method.getModifiers()), true);
                checks.due(method + " is static", Modifier.isStatic(method.getModifiers()), false);
            }
        }
        checks.due("the face is " + got, got.equals(due), true);
        for (Method method : face.getDeclaredMethods()) {
            if (Modifier.isPrivate(method.getModifiers())) {
                checks.due(method + " bears a public name", publicNames.contains(method.getName()), false);
            }
        }
    }

    private static void checkFields(Checks checks, Class<?> face) throws IllegalAccessException {
        for (Field field : face.getDeclaredFields()) {
            boolean isNone = field.getName().equals("NONE");
            checks.due(field + " is public", Modifier.isPublic(field.getModifiers()), isNone);
            checks.due(field + " is private", Modifier.isPrivate(field.getModifiers()), !isNone);
            if (Modifier.isStatic(field.getModifiers())) {
                checks.due(field + " is final", Modifier.isFinal(field.getModifiers()), true);
            }
        }
    }

    private static String signature(Method method) {
        String parameters = Arrays.stream(method.getParameterTypes())
                .map(Class::getName).collect(Collectors.joining(","));
        return method.getReturnType().getName() + " " + method.getName() + "(" + parameters + ")";
    }
}

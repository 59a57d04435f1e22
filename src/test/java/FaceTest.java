import java.lang.reflect.Constructor;
import java.lang.reflect.Field;
import java.lang.reflect.Method;
import java.lang.reflect.Modifier;
import java.util.ArrayList;
import java.util.Collections;
import java.util.List;

/** "The public face": just what the document has there, and the rules of ../shared/LANGUAGE.md that a face shows. */
public final class FaceTest {
    private static final String[] FACE = {
        "public int feed(int, int, int, int, int) throws IllegalStateException",
        "public int end(int) throws IllegalArgumentException",
        "public int load() throws UnsupportedOperationException, IllegalStateException",
        "public int fault(int) throws IllegalArgumentException",
        "public int limit(int) throws IllegalArgumentException",
        "public int run(int) throws IllegalArgumentException, IllegalStateException",
        "public int collect() throws IllegalStateException",
        "public int kind(int) throws IndexOutOfBoundsException",
        "public long value(int) throws IndexOutOfBoundsException",
        "public int byteOf(int, int) throws IndexOutOfBoundsException, IllegalArgumentException",
        "public int output(int) throws IndexOutOfBoundsException",
        "public int count(int)"};
    private static final int MOST_CLASSES = 12;
    private static final int MOST_FIELDS = 20;
    private static final int MOST_PARAMETERS = 7;

    public static void main(String[] args) {
        isOnePublicClass();
        hasTheDocumentsMethodsAlone();
        hidesAllElse();
        holdsNoStaticState();
        staysSmall();
        Due.end();
    }

    private static void isOnePublicClass() {
        Due.by("public final class LuaMachine {");
        Due.is("modifiers", Modifier.toString(LuaMachine.class.getModifiers()), "public final");
        Due.is("package", LuaMachine.class.getPackageName(), "");
        Due.is("it extends", LuaMachine.class.getSuperclass().getSimpleName(), "Object");
        Due.is("interfaces", LuaMachine.class.getInterfaces().length, 0);
        Due.by("public LuaMachine();");
        Constructor<?>[] constructors = LuaMachine.class.getDeclaredConstructors();
        Due.is("constructors", constructors.length, 1);
        Due.is("the constructor", constructors[0].toString(), "public LuaMachine()");
    }

    private static void hasTheDocumentsMethodsAlone() {
        Due.by("public int feed(int a, int b, int c, int d, int e) throws IllegalStateException;");
        List<String> want = new ArrayList<>(List.of(FACE));
        List<String> got = new ArrayList<>();
        for (Method method : LuaMachine.class.getDeclaredMethods()) {
            if (!Modifier.isPrivate(method.getModifiers()) && !method.isSynthetic()) {
                got.add(written(method));
            }
        }
        Collections.sort(want);
        Collections.sort(got);
        Due.is("the methods that are not private", String.join("\n", got), String.join("\n", want));
    }

    private static String written(Method method) {
        StringBuilder text = new StringBuilder(Modifier.toString(method.getModifiers()));
        text.append(' ').append(method.getReturnType().getSimpleName()).append(' ').append(method.getName());
        text.append('(').append(names(method.getParameterTypes())).append(')');
        if (method.getExceptionTypes().length > 0) {
            text.append(" throws ").append(names(method.getExceptionTypes()));
        }
        return text.toString();
    }

    private static String names(Class<?>[] types) {
        List<String> names = new ArrayList<>();
        for (Class<?> type : types) {
            names.add(type.getSimpleName());
        }
        return String.join(", ", names);
    }

    /** LANGUAGE.md, rule 1. */
    private static void hidesAllElse() {
        Due.by("");
        for (Field field : LuaMachine.class.getDeclaredFields()) {
            Due.is(field + " is private", String.valueOf(Modifier.isPrivate(field.getModifiers())), "true");
        }
        for (Class<?> inside : LuaMachine.class.getDeclaredClasses()) {
            int modifiers = inside.getModifiers();
            Due.is(inside + " is hidden and static",
                String.valueOf(Modifier.isStatic(modifiers) && !Modifier.isPublic(modifiers) && !Modifier.isProtected(modifiers)), "true");
        }
        for (Class<?> one : all()) {
            for (Method method : one.getDeclaredMethods()) {
                boolean isFace = one == LuaMachine.class && Modifier.isPublic(method.getModifiers());
                Due.is(method + " bears a name of the face", String.valueOf(!isFace && isNameOfTheFace(method.getName())), "false");
            }
        }
    }

    private static boolean isNameOfTheFace(String name) {
        for (String line : FACE) {
            if (line.contains(" " + name + "(")) {
                return true;
            }
        }
        return false;
    }

    private static List<Class<?>> all() {
        List<Class<?>> all = new ArrayList<>(List.of(LuaMachine.class.getDeclaredClasses()));
        all.add(LuaMachine.class);
        return all;
    }

    /** LANGUAGE.md, rule 5. */
    private static void holdsNoStaticState() {
        for (Class<?> one : all()) {
            for (Field field : one.getDeclaredFields()) {
                boolean isConstant = Modifier.isFinal(field.getModifiers())
                    && List.of("int", "long", "boolean", "char", "String").contains(field.getType().getSimpleName());
                boolean right = !Modifier.isStatic(field.getModifiers()) || isConstant;
                Due.is(field + " is a constant, if it is static", String.valueOf(right), "true");
            }
        }
    }

    /** LANGUAGE.md, rule 11. */
    private static void staysSmall() {
        Due.is("classes", Math.max(all().size(), MOST_CLASSES), MOST_CLASSES);
        for (Class<?> one : all()) {
            int fields = 0;
            for (Field field : one.getDeclaredFields()) {
                fields += Modifier.isStatic(field.getModifiers()) ? 0 : 1;
            }
            Due.is("fields of " + one, Math.max(fields, MOST_FIELDS), MOST_FIELDS);
            for (Method method : one.getDeclaredMethods()) {
                Due.is("parameters of " + method, Math.max(method.getParameterCount(), MOST_PARAMETERS), MOST_PARAMETERS);
            }
        }
    }
}

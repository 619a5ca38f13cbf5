import java.lang.reflect.Constructor;
import java.lang.reflect.Executable;
import java.lang.reflect.Field;
import java.lang.reflect.Method;
import java.lang.reflect.Modifier;
import java.util.ArrayList;
import java.util.List;
import java.util.Set;
import java.util.TreeSet;

/** "The public face", to the letter; and of LANGUAGE.md's rules 1, 3, 5 and 11 what the compiled class tells. */
final class FaceTest {
    private static final Set<String> FACE = Set.of("int feed(int,int,int,int,int)", "int load(int)", "int adder(int)",
        "int wrong(int)", "int count(int)", "int letter(int,int,int)", "boolean key(int,boolean)", "int tick(int)",
        "int quiet()", "int relay(int,int)", "int contact(int,int)", "int lamp(int)", "int net(int,int,int)",
        "boolean stuck(int,int,int)", "boolean dust(int,int,boolean)", "int race(int)", "int raced(int)", "int back(int)");
    private static final Set<Class<?>> PLAIN = Set.of(int.class, long.class, short.class, byte.class, char.class,
        boolean.class, String.class);

    public static void main(String[] args) {
        Class<?> face = CoilBench.class;
        Check.due("the class is public and final", face.getModifiers(), Modifier.PUBLIC | Modifier.FINAL);
        Check.due("it has no class above it", face.getSuperclass() == Object.class && face.getInterfaces().length == 0, true);
        Check.due("it has no package", face.getPackageName().isEmpty(), true);
        Check.due("NONE", CoilBench.NONE, -1);
        methods(face);
        constructors(face);
        fields(face);
        List<Class<?>> all = new ArrayList<>(List.of(face));
        for (Class<?> inside : face.getDeclaredClasses()) {
            Check.due(inside + " is static", Modifier.isStatic(inside.getModifiers()), true);
            Check.due(inside + " is no other's", (inside.getModifiers() & (Modifier.PUBLIC | Modifier.PROTECTED)) == 0, true);
            Check.due("classes inside " + inside, inside.getDeclaredClasses().length, 0);
            all.add(inside);
        }
        Check.due("classes", all.size() <= 12, true);
        all.forEach(FaceTest::rules);
        Check.end("FaceTest");
    }

    private static void methods(Class<?> face) {
        Set<String> open = new TreeSet<>();
        for (Method m : face.getDeclaredMethods()) {
            if (m.getModifiers() == Modifier.PUBLIC) {
                open.add(told(m));
            } else {
                Check.due(m + " is private", Modifier.isPrivate(m.getModifiers()), true);
            }
        }
        Check.due("public methods " + open, open.equals(FACE), true);
    }

    private static String told(Method m) {
        List<String> types = new ArrayList<>();
        for (Class<?> type : m.getParameterTypes()) {
            types.add(type.getName());
        }
        return m.getReturnType().getName() + " " + m.getName() + "(" + String.join(",", types) + ")";
    }

    private static void constructors(Class<?> face) {
        Constructor<?>[] all = face.getDeclaredConstructors();
        Check.due("constructors", all.length, 1);
        Check.due("it is public", all[0].getModifiers(), Modifier.PUBLIC);
        Check.due("it takes", all[0].getParameterCount(), 0);
    }

    private static void fields(Class<?> face) {
        for (Field f : face.getDeclaredFields()) {
            int due = f.getName().equals("NONE") ? Modifier.PUBLIC | Modifier.STATIC | Modifier.FINAL : Modifier.PRIVATE;
            Check.due(f.toString(), f.getModifiers() & due, due);
            Check.due(f + " is the face's", Modifier.isPublic(f.getModifiers()), f.getName().equals("NONE"));
        }
    }

    private static void rules(Class<?> one) {
        int held = 0;
        for (Field f : one.getDeclaredFields()) {
            boolean isStatic = Modifier.isStatic(f.getModifiers());
            held += isStatic ? 0 : 1;
            Check.due(f + ": static is final", !isStatic || Modifier.isFinal(f.getModifiers()), true);
            Check.due(f + ": its type", isAllowed(f.getType(), isStatic), true);
        }
        Check.due(one + ": fields", held <= 20, true);
        for (Method m : one.getDeclaredMethods()) {
            parameters(m);
        }
        for (Constructor<?> c : one.getDeclaredConstructors()) {
            parameters(c);
        }
    }

    private static void parameters(Executable of) {
        Check.due(of + ": parameters", of.getParameterCount() <= 7, true);
    }

    /** Plain types, arrays of these in one or two dimensions, own classes and arrays of them; static ones are constants. */
    private static boolean isAllowed(Class<?> type, boolean isStatic) {
        if (PLAIN.contains(type)) {
            return true;
        }
        if (type.isArray()) {
            Class<?> of = type.getComponentType();
            return of.isArray() ? !isStatic && of.getComponentType().isPrimitive() : isAllowed(of, isStatic);
        }
        return !isStatic && type.getEnclosingClass() == CoilBench.class;
    }
}

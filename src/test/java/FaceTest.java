import java.lang.reflect.Constructor;
import java.lang.reflect.Field;
import java.lang.reflect.Method;
import java.lang.reflect.Modifier;
import java.util.Arrays;
import java.util.HashSet;
import java.util.Set;
import java.util.TreeSet;
import java.util.stream.Collectors;

/** The public face is the document's and no more; no other state is static (LANGUAGE.md, rules 1, 5, 11). */
public final class FaceTest {
    private static final String[] METHODS = {"type(long,int)", "name()", "fixed()", "field(int)", "drop()", "limit(int)",
        "pack()", "packed(int)", "load(long,int)", "loop()", "unpack()", "place()", "about(int,int)",
        "byteOf(int,int,int)", "table(int,int)", "entry(int,int)", "entryByte(int,int,int,int)", "count(int)", "check()"};

    public static void main(String[] args) {
        Trial.due("NONE", FieldPacker.NONE, -1);
        Trial.due("FULL", FieldPacker.FULL, -2);
        Class<?> face = FieldPacker.class;
        Trial.due("public and final", face.getModifiers(), Modifier.PUBLIC | Modifier.FINAL);
        methods(face);
        fields(face);
        Constructor<?>[] constructors = face.getDeclaredConstructors();
        Trial.due("constructors", constructors.length, 1);
        Trial.due("public constructor", constructors[0].getModifiers() + " " + constructors[0].getParameterCount(), "1 0");
        for (Class<?> inside : face.getDeclaredClasses()) {
            nested(inside);
        }
        Trial.due("at most twelve classes", face.getDeclaredClasses().length <= 11 ? 1 : 0, 1);
        Trial.end();
    }

    private static void methods(Class<?> face) {
        Set<String> visible = new TreeSet<>();
        Set<String> names = new HashSet<>();
        for (Method method : face.getDeclaredMethods()) {
            if (!Modifier.isPrivate(method.getModifiers())) {
                visible.add(told(method));
                names.add(method.getName());
                Trial.due(told(method) + " is public, answers an int",
                    method.getModifiers() + " " + method.getReturnType(), "1 int");
            }
        }
        Trial.due("methods", visible.toString(), new TreeSet<>(Arrays.asList(METHODS)).toString());
        for (Method method : face.getDeclaredMethods()) {
            boolean hidden = Modifier.isPrivate(method.getModifiers());
            Trial.due(method + " bears a public name", hidden && names.contains(method.getName()) ? 1 : 0, 0);
        }
    }

    private static String told(Method method) {
        return Arrays.stream(method.getParameterTypes()).map(Class::getName)
            .collect(Collectors.joining(",", method.getName() + "(", ")"));
    }

    private static void fields(Class<?> face) {
        int own = 0;
        for (Field field : face.getDeclaredFields()) {
            int is = field.getModifiers();
            boolean constant = field.getName().equals("NONE") || field.getName().equals("FULL");
            Trial.due(field + " is private", Modifier.isPrivate(is) ? 1 : 0, constant ? 0 : 1);
            Trial.due(field + " is not static and changed", Modifier.isStatic(is) && !Modifier.isFinal(is) ? 1 : 0, 0);
            own += Modifier.isStatic(is) ? 0 : 1;
        }
        Trial.due("at most twenty fields", own <= 20 ? 1 : 0, 1);
    }

    private static void nested(Class<?> inside) {
        Trial.due(inside + " is private and static",
            inside.getModifiers() & (Modifier.PRIVATE | Modifier.STATIC), Modifier.PRIVATE | Modifier.STATIC);
        for (Field field : inside.getDeclaredFields()) {
            Trial.due(field + " is not static", Modifier.isStatic(field.getModifiers()) ? 1 : 0, 0);
        }
        for (Method method : inside.getDeclaredMethods()) {
            boolean taken = Arrays.stream(METHODS).anyMatch(m -> m.startsWith(method.getName() + "("));
            Trial.due(method + " bears a public name", taken ? 1 : 0, 0);
        }
    }
}

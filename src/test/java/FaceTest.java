import java.lang.reflect.Constructor;
import java.lang.reflect.Field;
import java.lang.reflect.Member;
import java.lang.reflect.Method;
import java.lang.reflect.Modifier;
import java.util.Set;
import java.util.TreeSet;

/** The public face, and LANGUAGE.md's rules 1 and 5 as far as reflection sees them. */
final class FaceTest {
    private static final String BOUNDS = " java.lang.IndexOutOfBoundsException";
    private static final String ARGUMENT = " java.lang.IllegalArgumentException";
    private static final String STATE = " java.lang.IllegalStateException";
    private static final String ELEMENT = " java.util.NoSuchElementException";

    private static final String[] FACE = {
        "int write(int,int)" + BOUNDS + ARGUMENT,
        "int open(int,int,int,int,int)" + ARGUMENT + STATE,
        "int close(int)" + BOUNDS,
        "int add(int,int,int,int,boolean,int)" + BOUNDS + ARGUMENT + STATE,
        "boolean setReporting(int,boolean)" + BOUNDS,
        "boolean link(int,int,boolean)" + BOUNDS + ARGUMENT,
        "int request()" + STATE,
        "int pass(int)" + ARGUMENT + STATE,
        "int requests()",
        "int tick()",
        "boolean acknowledge(int,int)" + BOUNDS,
        "int size(int,int)" + BOUNDS,
        "int valueAt(int,int,int)" + BOUNDS + ELEMENT,
        "int itemAt(int,int,int)" + BOUNDS + ELEMENT,
        "boolean isMarked(int,int,int)" + BOUNDS + ELEMENT,
        "int latest(int)" + BOUNDS,
        "int keepAlives(int)" + BOUNDS,
        "int waiting(int)" + BOUNDS,
        "int queued(int)" + BOUNDS,
        "int queuedByHistory(int)" + BOUNDS,
        "boolean isOpen(int)" + ARGUMENT,
    };

    private static final Check CHECK = new Check("FaceTest");

    public static void main(String[] args) {
        Class<?> face = PlantServer.class;
        CHECK.due("modifiers of the class", Modifier.toString(face.getModifiers()), "public final");
        CHECK.due("what the class extends", face.getSuperclass(), Object.class);
        CHECK.due("NONE", PlantServer.NONE, -1);
        methods(face);
        constructors(face);
        fields(face);
        classesInside(face);
        CHECK.end();
    }

    private static void methods(Class<?> face) {
        Set<String> got = new TreeSet<>();
        Set<String> names = new TreeSet<>();
        for (Method method : face.getDeclaredMethods()) {
            if (!Modifier.isPrivate(method.getModifiers())) {
                got.add(headOf(method));
                names.add(method.getName());
                CHECK.due("modifiers of " + method.getName(), Modifier.toString(method.getModifiers()), "public");
            }
        }
        CHECK.due("the public methods", got, new TreeSet<>(Set.of(FACE)));
        for (Method method : face.getDeclaredMethods()) {
            boolean hides = Modifier.isPrivate(method.getModifiers()) && names.contains(method.getName());
            CHECK.due("a private method with the public name " + method.getName(), hides, false);
        }
    }

    private static String headOf(Method method) {
        StringBuilder head = new StringBuilder(method.getReturnType().getName() + " " + method.getName() + "(");
        for (Class<?> type : method.getParameterTypes()) {
            head.append(head.charAt(head.length() - 1) == '(' ? "" : ",").append(type.getName());
        }
        head.append(')');
        for (Class<?> type : method.getExceptionTypes()) {
            head.append(' ').append(type.getName());
        }
        return head.toString();
    }

    private static void constructors(Class<?> face) {
        CHECK.due("how many constructors", face.getDeclaredConstructors().length, 1);
        for (Constructor<?> constructor : face.getDeclaredConstructors()) {
            CHECK.due("the constructor", constructor.toString(), "public PlantServer()");
        }
    }

    private static void fields(Class<?> face) {
        for (Field field : face.getDeclaredFields()) {
            if (field.getName().equals("NONE")) {
                CHECK.due("modifiers of NONE", Modifier.toString(field.getModifiers()), "public static final");
            } else {
                CHECK.due("private is " + field.getName(), Modifier.isPrivate(field.getModifiers()), true);
            }
            staticsAreFinal(field);
        }
    }

    private static void classesInside(Class<?> face) {
        for (Class<?> inside : face.getDeclaredClasses()) {
            int modifiers = inside.getModifiers();
            boolean shown = Modifier.isPublic(modifiers) || Modifier.isProtected(modifiers);
            CHECK.due("shown outside is " + inside.getName(), shown, false);
            CHECK.due("static is " + inside.getName(), Modifier.isStatic(modifiers), true);
            for (Field field : inside.getDeclaredFields()) {
                staticsAreFinal(field);
            }
        }
    }

    private static void staticsAreFinal(Member field) {
        int modifiers = field.getModifiers();
        boolean changes = Modifier.isStatic(modifiers) && !Modifier.isFinal(modifiers);
        CHECK.due("static and not final is " + field.getName(), changes, false);
    }
}

import java.lang.reflect.Constructor;
import java.lang.reflect.Field;
import java.lang.reflect.Method;
import java.lang.reflect.Modifier;
import java.util.Arrays;
import java.util.Set;
import java.util.TreeSet;

/** The public face: exactly the members that the document prints, and no other that is not private. */
final class FaceTest {
    private static final String[] METHODS = {
        "int feed(int,int,int,int,int)",
        "int load(int) IllegalArgumentException",
        "int errorPosition()",
        "int size(int) NoSuchElementException",
        "int total(int) NoSuchElementException",
        "int end(int,int) NoSuchElementException",
        "int rate(int,int) NoSuchElementException",
        "int frame(int,int,int) NoSuchElementException",
        "int received(int,int) NoSuchElementException",
        "int word(int,boolean,int) NoSuchElementException",
        "int event(int,int) NoSuchElementException",
        "int rateFor(int) IllegalArgumentException",
        "int nextCost(int) NoSuchElementException",
        "int ticksToFinish()",
        "int receivedBehind(int,int) NoSuchElementException,IllegalArgumentException",
        "int leastQuality()",
        "double costPerByte()",
        "float damage()",
        "int pass(int) IllegalArgumentException",
        "int dial()",
        "int hangUp()",
        "int escape(int) NoSuchElementException",
        "int resume(int) NoSuchElementException",
        "int send(int,int) NoSuchElementException,IllegalArgumentException",
        "int setQuality(int) IllegalArgumentException",
        "int format()",
        "int formattedByte(int)",
        "int undoCount()",
        "int undo()",
        "void saveSnapshot()",
        "boolean restoreSnapshot()",
        "int query(int) IllegalArgumentException",
    };

    private FaceTest() {
    }

    public static void main(String[] args) {
        Class<?> face = ModemLink.class;
        Check.same("modifiers", Modifier.toString(face.getModifiers()), "public final");
        Check.same("NONE", ModemLink.NONE, -1);
        Check.same("HIDDEN", ModemLink.HIDDEN, -1000000000);
        methods(face);
        fields(face);
        Constructor<?>[] constructors = face.getDeclaredConstructors();
        Check.same("constructors", Arrays.toString(constructors), "[public ModemLink()]");
        for (Class<?> inside : face.getDeclaredClasses()) {
            boolean fits = Modifier.isStatic(inside.getModifiers()) && !Modifier.isPublic(inside.getModifiers())
                && !Modifier.isProtected(inside.getModifiers());
            Check.same(inside + " is static and not public", fits ? 1 : 0, 1);
        }
        Check.same("at most 12 classes", face.getDeclaredClasses().length < 12 ? 1 : 0, 1);
        Check.finish();
    }

    private static void methods(Class<?> face) {
        Set<String> open = new TreeSet<>();
        Set<String> names = new TreeSet<>();
        for (Method method : face.getDeclaredMethods()) {
            if (!Modifier.isPrivate(method.getModifiers())) {
                Check.same(method + " modifiers", Modifier.toString(method.getModifiers()), "public");
                open.add(described(method));
                names.add(method.getName());
            }
        }
        Check.same("open methods", open.toString(), new TreeSet<>(Arrays.asList(METHODS)).toString());
        for (Method method : face.getDeclaredMethods()) {
            if (Modifier.isPrivate(method.getModifiers())) {
                Check.same(method.getName() + " is the name of a public method", names.contains(method.getName()) ? 1 : 0, 0);
            }
        }
    }

    private static String described(Method method) {
        StringBuilder text = new StringBuilder(method.getReturnType().getSimpleName());
        text.append(' ').append(method.getName()).append('(');
        text.append(String.join(",", Arrays.stream(method.getParameterTypes()).map(Class::getSimpleName).toList()));
        text.append(')');
        String thrown = String.join(",", Arrays.stream(method.getExceptionTypes()).map(Class::getSimpleName).toList());
        return text.append(thrown.isEmpty() ? "" : " " + thrown).toString();
    }

    private static void fields(Class<?> face) {
        Set<String> open = new TreeSet<>();
        for (Field field : face.getDeclaredFields()) {
            if (!Modifier.isPrivate(field.getModifiers())) {
                open.add(field.toString());
            } else if (Modifier.isStatic(field.getModifiers())) {
                Check.same(field + " is final", Modifier.isFinal(field.getModifiers()) ? 1 : 0, 1);
            }
        }
        Check.same("open fields", open.toString(),
            "[public static final int ModemLink.HIDDEN, public static final int ModemLink.NONE]");
    }
}

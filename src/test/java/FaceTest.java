import java.lang.management.ManagementFactory;
import java.lang.reflect.Constructor;
import java.lang.reflect.Field;
import java.lang.reflect.Method;
import java.lang.reflect.Modifier;
import java.util.Arrays;
import java.util.Set;
import java.util.TreeSet;

/** The public face, and the room that a run of calls takes. */
public final class FaceTest {
    private static final Set<String> FACE = new TreeSet<>(Arrays.asList(
            "int cover(int, int)", "int join(int, int)", "int mark(int, int)", "int bar(int, int)",
            "int step()", "int split()", "int begin()", "int append(int)", "int clearBuffer()",
            "int firstError()", "int load()", "int keep(int)", "int goBack(int)", "int undo()",
            "int pieceOf(int, int)", "int isJoined(int, int)", "int noted(int, int)", "int count(int)",
            "int heaviest(int)", "int openWay(int)", "int ifSplit()", "int mainPiece()",
            "double explained()", "long digest()"));

    public static void main(String[] args) {
        methods();
        fieldsAndConstructors();
        nestedClasses();
        room();
        Due.close("FaceTest");
    }

    private static String text(Method method) {
        String parameters = Arrays.toString(method.getParameterTypes());
        return method.getReturnType() + " " + method.getName() + "("
                + parameters.substring(1, parameters.length() - 1) + ")";
    }

    private static void methods() {
        Set<String> found = new TreeSet<>();
        Set<String> names = new TreeSet<>();
        for (Method method : CoverWays.class.getDeclaredMethods()) {
            if (Modifier.isPublic(method.getModifiers())) {
                found.add(text(method));
                names.add(method.getName());
            }
        }
        Due.tell(found.equals(FACE), "the public methods are " + found);
        for (Method method : CoverWays.class.getDeclaredMethods()) {
            int flags = method.getModifiers();
            Due.tell(Modifier.isPublic(flags) || Modifier.isPrivate(flags), method + " is neither public nor private");
            Due.tell(Modifier.isPublic(flags) || !names.contains(method.getName()), method + " has a public name");
        }
    }

    private static void fieldsAndConstructors() {
        Due.tell(Modifier.isFinal(CoverWays.class.getModifiers()), "the class is not final");
        Due.tell(CoverWays.class.getSuperclass() == Object.class, "the class extends another one");
        Due.equal("interfaces", CoverWays.class.getInterfaces().length, 0);
        Constructor<?>[] constructors = CoverWays.class.getDeclaredConstructors();
        Due.equal("constructors", constructors.length, 1);
        Due.tell(Modifier.isPublic(constructors[0].getModifiers()), "the constructor is not public");
        for (Field field : CoverWays.class.getDeclaredFields()) {
            int flags = field.getModifiers();
            boolean constant = field.getName().equals("NONE");
            Due.tell(constant ? Modifier.isPublic(flags) : Modifier.isPrivate(flags), field + " is seen from outside");
            Due.tell(!Modifier.isStatic(flags) || Modifier.isFinal(flags), field + " is static and not final");
        }
    }

    private static void nestedClasses() {
        Class<?>[] nested = CoverWays.class.getDeclaredClasses();
        Due.tell(nested.length <= 12, "there are too many classes inside");
        for (Class<?> inside : nested) {
            int flags = inside.getModifiers();
            Due.tell(Modifier.isPrivate(flags) && Modifier.isStatic(flags), inside + " is not private and static");
            for (Field field : inside.getDeclaredFields()) {
                int its = field.getModifiers();
                Due.tell(!Modifier.isStatic(its) || Modifier.isFinal(its), field + " is static and not final");
            }
        }
    }

    /** A run of 512 calls has room for some 600,000 objects; no call here should make any. */
    private static void room() {
        com.sun.management.ThreadMXBean threads =
                (com.sun.management.ThreadMXBean) ManagementFactory.getThreadMXBean();
        CoverWays x = new CoverWays();
        manyCalls(x);
        long id = Thread.currentThread().getId();
        long before = threads.getThreadAllocatedBytes(id);
        manyCalls(x);
        long bytes = threads.getThreadAllocatedBytes(id) - before;
        Due.tell(bytes < 20_000, "512 calls made objects of " + bytes + " bytes");
    }

    private static void manyCalls(CoverWays x) {
        for (int i = 0; i < 32; i++) {
            x.cover(i % 9, i);
            x.join(i % 8, 8);
            x.mark(i % 9, 3);
            x.bar(i % 8, 8);
            x.step();
            x.split();
            x.keep(0);
            x.goBack(0);
            x.append('c');
            x.firstError();
            x.ifSplit();
            x.mainPiece();
            x.digest();
            x.digest();
            x.undo();
            x.clearBuffer();
        }
    }
}

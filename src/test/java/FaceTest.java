import java.lang.management.ManagementFactory;
import java.lang.reflect.Constructor;
import java.lang.reflect.Field;
import java.lang.reflect.Method;
import java.lang.reflect.Modifier;
import java.util.TreeSet;

/** The public face is the document's, nothing else can be seen, and calls make no objects. */
public final class FaceTest {
    private static final String STATE = "java.lang.IllegalStateException";
    private static final String ARGUMENT = "java.lang.IllegalArgumentException";
    private static final String INDEX = "java.lang.IndexOutOfBoundsException";
    private static final String LIMIT = "java.lang.UnsupportedOperationException";

    private FaceTest() {
    }

    public static void main(String[] args) {
        methods();
        hidden();
        room();
        Check.end();
    }

    private static String throwing(String head, String... exceptions) {
        return "public " + head + (exceptions.length == 0 ? "" : " throws " + String.join(",", exceptions));
    }

    private static void methods() {
        TreeSet<String> want = new TreeSet<>();
        want.add(throwing("int RegionDesk.member(int,int,int,boolean)", ARGUMENT, STATE));
        want.add(throwing("int RegionDesk.row()", STATE));
        want.add(throwing("void RegionDesk.and()", STATE, LIMIT));
        want.add(throwing("void RegionDesk.or()", STATE, LIMIT));
        want.add(throwing("void RegionDesk.not()", STATE, LIMIT));
        want.add(throwing("void RegionDesk.free(int)", ARGUMENT, STATE, LIMIT));
        want.add(throwing("void RegionDesk.keep(int)", ARGUMENT, STATE));
        want.add(throwing("int RegionDesk.load(int)", ARGUMENT, STATE));
        want.add(throwing("boolean RegionDesk.drop()"));
        want.add(throwing("int RegionDesk.pile()"));
        want.add(throwing("int RegionDesk.rows()", STATE));
        want.add(throwing("int RegionDesk.members(int)", STATE, INDEX));
        want.add(throwing("int RegionDesk.part(int,int,int)", STATE, INDEX, ARGUMENT));
        want.add(throwing("boolean RegionDesk.holds(int,int,int)", STATE, ARGUMENT));
        want.add(throwing("boolean RegionDesk.within()", STATE, LIMIT));
        want.add(throwing("int RegionDesk.least(int,int)", STATE, ARGUMENT));
        want.add(throwing("long RegionDesk.value(int)", ARGUMENT));
        TreeSet<String> got = new TreeSet<>();
        for (Method method : RegionDesk.class.getDeclaredMethods()) {
            if (!Modifier.isPrivate(method.getModifiers())) {
                got.add(method.toString());
            }
        }
        Check.due("the methods", String.join("\n", want), String.join("\n", got));
    }

    private static void hidden() {
        Constructor<?>[] constructors = RegionDesk.class.getDeclaredConstructors();
        Check.due("constructors", 1, constructors.length);
        Check.due("the constructor", "public RegionDesk()", constructors[0].toString());
        Check.due("the class", Modifier.PUBLIC | Modifier.FINAL, RegionDesk.class.getModifiers());
        for (Field field : RegionDesk.class.getDeclaredFields()) {
            Check.due("private " + field.getName(), true, Modifier.isPrivate(field.getModifiers()));
        }
        for (Class<?> inside : RegionDesk.class.getDeclaredClasses()) {
            int modifiers = inside.getModifiers();
            Check.due("static " + inside, true, Modifier.isStatic(modifiers));
            Check.due("public " + inside, false, Modifier.isPublic(modifiers));
            for (Field field : inside.getDeclaredFields()) {
                boolean fine = !Modifier.isStatic(field.getModifiers())
                        || Modifier.isFinal(field.getModifiers());
                Check.due("no static state, " + field, true, fine);
            }
        }
    }

    /** The bytes that this thread has made objects of, as far as the machine tells. */
    private static long made() {
        return ((com.sun.management.ThreadMXBean) ManagementFactory.getThreadMXBean())
                .getThreadAllocatedBytes(Thread.currentThread().getId());
    }

    private static void room() {
        RegionDesk warm = new RegionDesk();
        work(warm);
        made();
        long first = made();
        RegionDesk desk = new RegionDesk();
        long second = made();
        for (int i = 0; i < 200; i++) {
            work(desk);
        }
        long third = made();
        Check.due("a desk is below 64 KiB", true, second - first < 65536);
        Check.due("thousands of calls make next to nothing", true, third - second < 65536);
    }

    private static void work(RegionDesk desk) {
        for (int i = 0; i < 3; i++) {
            desk.member(1, i, 5, true);
            desk.member(-1, 2, 7 - i, false);
            desk.member(0, -1, 3, false);
            desk.row();
        }
        desk.not();
        desk.or();
        desk.within();
        desk.and();
        desk.keep(1);
        desk.load(1);
        desk.least(3, -4);
        desk.holds(1, 1, 3);
        desk.free(0);
        desk.drop();
    }
}

import java.lang.management.ManagementFactory;
import java.lang.reflect.Constructor;
import java.lang.reflect.Field;
import java.lang.reflect.Method;
import java.lang.reflect.Modifier;
import java.util.Arrays;
import java.util.NoSuchElementException;
import java.util.Set;
import java.util.TreeSet;

/** The public face is the document's and no more, and calls make no objects beyond the constructor's. */
public final class FaceTest {
    private static final String[] FACE = {
        "at(int) int",
        "begin() int",
        "climber(int, int, int) int",
        "comes(int, int) int",
        "count(int) int",
        "fetch(int) int",
        "high(int) int",
        "mountain(int) boolean",
        "need(int, int) int",
        "of(int, int) int",
        "on(int) int",
        "pitch(int, int, int) boolean",
        "plan(int) int",
        "run(int) int",
        "team(int, int, int) int",
        "tries(int, int, int, int, int) int",
        "wind(int, int, boolean) boolean",
    };

    public static void main(String[] args) {
        methods();
        constructorAndFields();
        onlyOfThrows();
        classesInside();
        room();
        Check.end();
    }

    private static void methods() {
        Set<String> names = new TreeSet<>();
        Set<String> found = new TreeSet<>();
        for (String line : FACE) {
            names.add(line.substring(0, line.indexOf('(')));
        }
        for (Method m : RopeMountain.class.getDeclaredMethods()) {
            if (Modifier.isPrivate(m.getModifiers())) {
                Check.due("private " + m.getName() + " bears a public name", names.contains(m.getName()), false);
                continue;
            }
            String types = Arrays.toString(m.getParameterTypes()).replace("[", "(").replace("]", ")");
            found.add(m.getName() + types + " " + m.getReturnType());
            Check.due(m.getName() + " is public", Modifier.isPublic(m.getModifiers()), true);
            Check.due(m.getName() + " is static", Modifier.isStatic(m.getModifiers()), false);
        }
        Check.due("the methods " + found + " are those of the face", found.equals(new TreeSet<>(Arrays.asList(FACE))),
            true);
    }

    private static void constructorAndFields() {
        Check.due("NONE", RopeMountain.NONE, -1);
        Check.due("final", Modifier.isFinal(RopeMountain.class.getModifiers()), true);
        Constructor<?>[] all = RopeMountain.class.getDeclaredConstructors();
        Check.due("constructors", all.length, 1);
        Check.due("its parameters", all[0].getParameterCount(), 0);
        Check.due("public", Modifier.isPublic(all[0].getModifiers()), true);
        for (Field f : RopeMountain.class.getDeclaredFields()) {
            Check.due(f.getName() + " is private", Modifier.isPrivate(f.getModifiers()), !f.getName().equals("NONE"));
        }
    }

    private static void onlyOfThrows() {
        for (Method m : RopeMountain.class.getDeclaredMethods()) {
            Class<?>[] declared = m.getExceptionTypes();
            boolean isOf = m.getName().equals("of");
            Check.due(m.getName() + " declares exceptions", declared.length, isOf ? 1 : 0);
            if (isOf && declared.length == 1) {
                Check.due("of declares " + declared[0], declared[0] == NoSuchElementException.class, true);
            }
        }
    }

    private static void classesInside() {
        for (Class<?> c : RopeMountain.class.getDeclaredClasses()) {
            int m = c.getModifiers();
            Check.due(c.getName() + " is static", Modifier.isStatic(m), true);
            Check.due(c.getName() + " is seen outside", Modifier.isPublic(m) || Modifier.isProtected(m), false);
        }
    }

    /** The dearest calls again and again: what they make must not grow with their number. */
    private static void room() {
        com.sun.management.ThreadMXBean threads =
            (com.sun.management.ThreadMXBean) ManagementFactory.getThreadMXBean();
        RopeMountain x = new RopeMountain();
        x.mountain(6);
        for (int i = 0; i < 12; i++) {
            x.climber(i % 3, i % 5, 20 + i);
        }
        x.wind(5, 9, true);
        callAll(x);
        long before = threads.getCurrentThreadAllocatedBytes();
        for (int k = 0; k < 50; k++) {
            callAll(x);
        }
        long made = threads.getCurrentThreadAllocatedBytes() - before;
        Check.due("50 rounds of all calls made " + made + " bytes, under 10000", made < 10000, true);
    }

    private static void callAll(RopeMountain x) {
        x.plan(3);
        x.tries(3, 1, 2, 3, 2);
        x.run(60);
        for (int i = 0; i < 12; i++) {
            x.of(i, 0);
            x.fetch(i);
        }
        for (int what = 0; what < 8; what++) {
            x.count(what);
        }
        x.on(1);
        x.at(1);
        x.need(6, 200);
        x.comes(6, 2000);
        x.team(3, 0, 1);
        x.high(2);
        x.pitch(3, 3, 3);
        x.mountain(6);
        x.begin();
    }
}

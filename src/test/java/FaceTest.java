import com.sun.management.ThreadMXBean;
import java.lang.management.ManagementFactory;
import java.lang.reflect.Array;
import java.lang.reflect.Constructor;
import java.lang.reflect.Field;
import java.lang.reflect.Method;
import java.lang.reflect.Modifier;
import java.util.Arrays;
import java.util.Collections;
import java.util.IdentityHashMap;
import java.util.List;
import java.util.Set;
import java.util.TreeSet;

/** The public face is the document's and nothing else; what an object holds is made once, and a run has room. */
public final class FaceTest {
    private static final long MOST_FIELDS = 7300000;
    private static final List<String> METHODS = List.of("boolean feed(int,int,int,int,int)", "boolean end(int)", "int load()",
        "int error(int)", "int count(int)", "boolean time(int)", "boolean set(int,int,int,int,int)", "boolean hang(int,int)",
        "boolean hide(int,boolean)", "boolean camera(int,int,int,int)", "boolean light(int,int,int,int)",
        "boolean background(int,int,int)", "int world(int,int,int)", "int begin()", "boolean tile(int)", "int pixel(int,int)",
        "int nearness(int,int)", "int pick(int,int)", "int picked()", "int file()", "int byteAt(int)");

    private static void face() {
        Due.is("public and final", OrreryBox.class.getModifiers(), Modifier.PUBLIC | Modifier.FINAL);
        Set<String> names = new TreeSet<>();
        Set<String> found = new TreeSet<>();
        for (Method m : OrreryBox.class.getDeclaredMethods()) {
            if (!Modifier.isPrivate(m.getModifiers()) && !m.isSynthetic()) {
                String parameters = Arrays.toString(Arrays.stream(m.getParameterTypes()).map(Class::getName).toArray());
                found.add(m.getReturnType() + " " + m.getName() + "("
                    + parameters.substring(1, parameters.length() - 1).replace(" ", "") + ")");
                names.add(m.getName());
                Due.is(m.getName() + " is public", m.getModifiers(), Modifier.PUBLIC);
            }
        }
        for (String method : METHODS) {
            Due.is(method + " is there", found.contains(method), true);
        }
        Due.is("methods", found.size(), METHODS.size());
        for (Method m : OrreryBox.class.getDeclaredMethods()) {
            Due.is(m.getName() + " is no private one's name", Modifier.isPrivate(m.getModifiers()) && names.contains(m.getName()),
                false);
        }
        for (Field f : OrreryBox.class.getDeclaredFields()) {
            Due.is(f.getName() + " is private", Modifier.isPrivate(f.getModifiers()), !f.getName().equals("NONE"));
        }
        Constructor<?>[] constructors = OrreryBox.class.getDeclaredConstructors();
        Due.is("constructors", constructors.length, 1);
        Due.is("it is public", constructors[0].getModifiers(), Modifier.PUBLIC);
        Due.is("classes", OrreryBox.class.getDeclaredClasses().length <= 12, true);
    }

    /** All fields and elements that can be reached from an object, without constants. */
    private static long held(Object start, Set<Object> seen) throws IllegalAccessException {
        if (start == null || !seen.add(start)) {
            return 0;
        }
        long sum = 0;
        if (start.getClass().isArray()) {
            int n = Array.getLength(start);
            for (int i = 0; i < n && !start.getClass().getComponentType().isPrimitive(); i++) {
                sum += held(Array.get(start, i), seen);
            }
            return sum + n;
        }
        for (Field f : start.getClass().getDeclaredFields()) {
            boolean own = f.getDeclaringClass().getName().startsWith("OrreryBox");
            if (own && !Modifier.isStatic(f.getModifiers())) {
                f.setAccessible(true);
                sum++;
                if (!f.getType().isPrimitive()) {
                    sum += held(f.get(start), seen);
                }
            }
        }
        return sum;
    }

    /** "All memory is the engine's own, made once": after a whole run an object holds what it held at first. */
    private static void madeOnce() throws IllegalAccessException {
        OrreryBox box = new OrreryBox(48, 48);
        Set<Object> before = Collections.newSetFromMap(new IdentityHashMap<>());
        long fields = held(box, before);
        System.out.println("an object holds " + before.size() + " objects and arrays, " + fields + " fields and elements");
        Due.is("fields and elements", fields < 1000000, true);
        Due.is("objects and arrays", before.size() < 2000, true);
        use(box);
        Set<Object> after = Collections.newSetFromMap(new IdentityHashMap<>());
        Due.is("nothing more is held after use", held(box, after), fields);
        Due.is("no other objects", before.containsAll(after), true);
    }

    /** A run of texts right and wrong, pictures, picks and files, within 512 calls. */
    private static void use(OrreryBox box) {
        int[][] rows = Due.rowsOf(Texts.redSquare());
        int calls = 0;
        for (int round = 0; calls + rows.length + 80 <= 512; round++) {
            for (int[] row : rows) {
                box.feed(row[0], row[1], row[2], row[3], row[4]);
            }
            box.end(Texts.redSquare().length() - round % 2);
            try {
                box.load();
            } catch (IllegalArgumentException e) {
                Due.is("error(0)", box.error(0), 1);
            }
            box.time(round);
            int tiles = box.begin();
            for (int k = 0; k < tiles; k++) {
                box.tile(k);
                box.pick(k, k);
            }
            box.file();
            calls += rows.length + 6 + 2 * tiles;
        }
    }

    /** All calls of one run live in one room, and what they throw away does, too. */
    private static void room() {
        ThreadMXBean threads = (ThreadMXBean) ManagementFactory.getThreadMXBean();
        long before = threads.getCurrentThreadAllocatedBytes();
        use(new OrreryBox(48, 48));
        long bytes = threads.getCurrentThreadAllocatedBytes() - before;
        System.out.println("a run makes " + bytes + " bytes");
        Due.is("bytes of a run", bytes < 8 * MOST_FIELDS, true);
    }

    public static void main(String[] args) throws IllegalAccessException {
        face();
        madeOnce();
        room();
        Due.close("FaceTest");
    }
}

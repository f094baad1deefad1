import java.lang.reflect.Array;
import java.lang.reflect.Constructor;
import java.lang.reflect.Field;
import java.lang.reflect.Method;
import java.lang.reflect.Modifier;
import java.util.Arrays;
import java.util.Collections;
import java.util.IdentityHashMap;
import java.util.List;
import java.util.Set;
import java.util.TreeSet;

/** The public face is the document's and nothing else, and what an object holds is made once and is not much. */
public final class FaceTest {
    private static final List<String> METHODS = List.of("boolean feed(int,int,int,int,int)", "boolean end(int)", "int load()",
        "int error(int)", "int count(int)", "boolean time(int)", "boolean set(int,int,int,int,int)", "boolean hang(int,int)",
        "boolean hide(int,boolean)", "boolean camera(int,int,int,int)", "boolean light(int,int,int,int)",
        "boolean background(int,int,int)", "int world(int,int,int)", "int begin()", "boolean tile(int)", "int pixel(int,int)",
        "int nearness(int,int)", "int pick(int,int)", "int picked()", "int file()", "int byteAt(int)");

    private static void face() {
        Due.is("public and final", OrreryBox.class.getModifiers(), Modifier.PUBLIC | Modifier.FINAL);
        Set<String> names = new TreeSet<>();
        Set<String> found = new TreeSet<>();
        for (Method m : OrreryBox.class.getDeclaredMethods()) {
            if (!Modifier.isPrivate(m.getModifiers())) {
                String parameters = Arrays.toString(Arrays.stream(m.getParameterTypes()).map(Class::getName).toArray());
                found.add(m.getReturnType() + " " + m.getName() + "("
                    + parameters.substring(1, parameters.length() - 1).replace(" ", "") + ")");
                names.add(m.getName());
                Due.is(m.getName() + " is public", m.getModifiers(), Modifier.PUBLIC);
            }
        }
        for (String method : METHODS) {
            Due.is(method + " is there", found.contains(method), true);
        }
        Due.is("methods", found.size(), METHODS.size());
        for (Method m : OrreryBox.class.getDeclaredMethods()) {
            Due.is(m.getName() + " is no private one's name", Modifier.isPrivate(m.getModifiers()) && names.contains(m.getName()),
                false);
        }
        for (Field f : OrreryBox.class.getDeclaredFields()) {
            Due.is(f.getName() + " is private", Modifier.isPrivate(f.getModifiers()), !f.getName().equals("NONE"));
        }
        Constructor<?>[] constructors = OrreryBox.class.getDeclaredConstructors();
        Due.is("constructors", constructors.length, 1);
        Due.is("it is public", constructors[0].getModifiers(), Modifier.PUBLIC);
        Due.is("classes", OrreryBox.class.getDeclaredClasses().length <= 12, true);
    }

    /** All fields and elements that can be reached from an object, without constants. */
    private static long held(Object start, Set<Object> seen) throws IllegalAccessException {
        if (start == null || !seen.add(start)) {
            return 0;
        }
        long sum = 0;
        if (start.getClass().isArray()) {
            int n = Array.getLength(start);
            for (int i = 0; i < n && !start.getClass().getComponentType().isPrimitive(); i++) {
                sum += held(Array.get(start, i), seen);
            }
            return sum + n;
        }
        for (Field f : start.getClass().getDeclaredFields()) {
            if (!Modifier.isStatic(f.getModifiers())) {
                f.setAccessible(true);
                sum++;
                if (!f.getType().isPrimitive()) {
                    sum += held(f.get(start), seen);
                }
            }
        }
        return sum;
    }

    private static void load(OrreryBox box, String text) {
        for (int[] row : Due.rowsOf(text)) {
            box.feed(row[0], row[1], row[2], row[3], row[4]);
        }
        box.end(text.length());
        Due.is("load", box.load(), 1);
    }

    /** "All memory is the engine's own, made once"; a run has room for some 7.3 million and 600,000. */
    private static void room() throws IllegalAccessException {
        OrreryBox box = new OrreryBox(48, 48);
        Set<Object> before = Collections.newSetFromMap(new IdentityHashMap<>());
        long fields = held(box, before);
        System.out.println("an object holds " + before.size() + " objects and arrays, " + fields + " fields and elements");
        Due.is("fields and elements", fields < 1000000, true);
        Due.is("objects and arrays", before.size() < 2000, true);
        load(box, Texts.redSquare());
        box.time(3);
        box.pick(3, 3);
        int tiles = box.begin();
        load(box, Texts.redSquare());
        for (int k = 0; k < tiles; k++) {
            box.tile(k);
        }
        box.file();
        Set<Object> after = Collections.newSetFromMap(new IdentityHashMap<>());
        Due.is("nothing more is held after use", held(box, after), fields);
        Due.is("no other objects", before.containsAll(after), true);
    }

    public static void main(String[] args) throws IllegalAccessException {
        face();
        room();
        Due.close("FaceTest");
    }
}

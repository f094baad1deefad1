import java.util.ArrayList;
import java.util.List;
import java.util.NoSuchElementException;
import java.util.function.Consumer;

/**
 * An OrreryBox that is never called more often than the document lets it be: when its 512 calls are used up, a new one
 * takes its place, on which all calls that can have changed something are made again. A test that has more than 512 of
 * these asks for what the document does not promise, and ends.
 */
final class Fresh {
    private static final int MOST_CALLS = 512;

    private final int width;
    private final int height;
    private final List<Consumer<OrreryBox>> changes = new ArrayList<>();
    private Consumer<OrreryBox> latestPick;
    private OrreryBox box;
    private int calls;

    Fresh(int width, int height) {
        this.width = width;
        this.height = height;
        box = new OrreryBox(width, height);
    }

    /** How many calls that change something are left. */
    int left() {
        return MOST_CALLS - changes.size();
    }

    private OrreryBox ready() {
        if (calls == MOST_CALLS) {
            box = new OrreryBox(width, height);
            changes.forEach(change -> change.accept(box));
            calls = changes.size();
        }
        if (calls >= MOST_CALLS) {
            throw new IllegalStateException("more than 512 calls that change something");
        }
        calls++;
        return box;
    }

    private OrreryBox changed(Consumer<OrreryBox> change) {
        OrreryBox now = ready();
        changes.add(change);
        return now;
    }

    boolean feed(int a, int b, int c, int d, int e) {
        return changed(o -> o.feed(a, b, c, d, e)).feed(a, b, c, d, e);
    }

    boolean end(int n) {
        return changed(o -> o.end(n)).end(n);
    }

    int load() {
        return changed(Fresh::loadAgain).load();
    }

    private static void loadAgain(OrreryBox again) {
        try {
            again.load();
        } catch (IllegalArgumentException e) {
            // It threw at first, too: what is told of it is what the test has looked at.
            return;
        }
    }

    int error(int what) {
        return ready().error(what);
    }

    int count(int what) {
        return ready().count(what);
    }

    boolean time(int t) {
        return changed(o -> o.time(t)).time(t);
    }

    boolean set(int node, int what, int x, int y, int z) {
        return changed(o -> o.set(node, what, x, y, z)).set(node, what, x, y, z);
    }

    boolean hang(int node, int parent) {
        return changed(o -> o.hang(node, parent)).hang(node, parent);
    }

    boolean hide(int node, boolean is) {
        return changed(o -> o.hide(node, is)).hide(node, is);
    }

    boolean camera(int what, int x, int y, int z) {
        return changed(o -> o.camera(what, x, y, z)).camera(what, x, y, z);
    }

    boolean light(int x, int y, int z, int ambient) {
        return changed(o -> o.light(x, y, z, ambient)).light(x, y, z, ambient);
    }

    boolean background(int red, int green, int blue) {
        return changed(o -> o.background(red, green, blue)).background(red, green, blue);
    }

    int world(int node, int i, int j) throws NoSuchElementException {
        return ready().world(node, i, j);
    }

    int begin() {
        return changed(OrreryBox::begin).begin();
    }

    boolean tile(int k) {
        return changed(o -> o.tile(k)).tile(k);
    }

    int pixel(int x, int y) {
        return ready().pixel(x, y);
    }

    int nearness(int x, int y) {
        return ready().nearness(x, y);
    }

    /** Of all picks the latest alone can be asked for, so it takes the place of the one before. */
    int pick(int x, int y) {
        OrreryBox now = ready();
        changes.remove(latestPick);
        latestPick = o -> o.pick(x, y);
        changes.add(latestPick);
        return now.pick(x, y);
    }

    int picked() {
        return ready().picked();
    }

    int file() {
        return changed(OrreryBox::file).file();
    }

    int byteAt(int k) {
        return ready().byteAt(k);
    }
}

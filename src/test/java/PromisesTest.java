import java.util.function.ToLongFunction;

/** The sentences of the promises that name a boundary: what is refused changes nothing, and what is just allowed does. */
public final class PromisesTest {
    private static final int MIN = Integer.MIN_VALUE;
    private static final int MAX = Integer.MAX_VALUE;
    private static final int MOVE = 4194304;
    private static final int TURN = 1048576;

    /** Three nodes, one below the other, with a track; a picture half drawn, a file, a pick, half a text on the tape. */
    private static OrreryBox used() {
        OrreryBox box = new OrreryBox(16, 8);
        String nodes = Texts.node(-1, 0, 0, 0, 262144) + "," + Texts.node(0, 0, 30000, 10000, -60000) + ","
            + Texts.node(1, -1, 5, 6, 7);
        Due.load(box, Texts.scene("", Texts.material(250, 120, 60, 255, -1, 0), Texts.square(0, 32768), nodes,
            Texts.track(0, 0, 1, "0,100", "0,0,262144,100,0,262144")));
        box.time(50);
        box.background(1, 2, 3);
        Due.drawAll(box);
        box.file();
        box.begin();
        box.tile(1);
        box.pick(8, 4);
        Due.tape(box, "{\"nodes\":");
        return box;
    }

    /** What all calls answer, put down in a row; the tape's text is ended and loaded at last. */
    private static String told(OrreryBox box) {
        StringBuilder told = new StringBuilder();
        for (int what = 0; what < 6; what++) {
            told.append(box.count(what)).append(' ').append(box.error(what)).append(' ');
        }
        told.append("picked ").append(box.picked()).append(" byte ").append(box.byteAt(60)).append(' ');
        for (int node = 0; node < 3; node++) {
            for (int k = 0; k < 12; k++) {
                told.append(box.world(node, k / 4, k % 4)).append(' ');
            }
        }
        for (int k = 0; k < 128; k += 3) {
            told.append(box.pixel(k % 16, k / 16)).append(' ').append(box.nearness(k % 16, k / 16)).append(' ');
        }
        told.append(box.tile(1)).append(box.tile(0)).append(box.file()).append(' ').append(box.begin());
        for (int k = 0; k < 128; k += 3) {
            told.append(' ').append(box.pick(k % 16, k / 16)).append(' ').append(box.picked());
        }
        told.append(box.tile(0)).append(box.tile(1)).append(box.file());
        for (int k = 41; k < 90; k++) {
            told.append(' ').append(box.byteAt(k));
        }
        told.append(box.feed(0x5B5D7D20, 0x20202020, 0x20202020, 0x20202020, 0x20202020));
        return told.append(Due.load(box)).append(' ').append(box.count(3)).toString();
    }

    private static final String DUE = told(used());

    private static void refused(String name, long due, ToLongFunction<OrreryBox> call) {
        OrreryBox box = used();
        Due.is(name, call.applyAsLong(box), due);
        Due.is("nothing has changed after " + name, told(box).equals(DUE), true);
    }

    private static long bit(boolean is) {
        return is ? 1 : 0;
    }

    private static void tape() {
        int[] none = {-1, 10, 20, 65536, 65537, MIN, MAX};
        for (int n : none) {
            refused("end(" + n + ")", 0, b -> bit(b.end(n)));
        }
        refused("end(9), as it is", 1, b -> bit(b.end(9)));
        OrreryBox box = new OrreryBox(8, 8);
        Due.is("end(0) of an empty tape", box.end(0), true);
        Due.is("end(1) of an empty tape", box.end(1), false);
        Due.is("feed", box.feed(0x7B787878, 0x78787878, 0x78787878, 0x78787878, 0x78787878), true);
        Due.is("end(21)", box.end(21), false);
        Due.is("end(1)", box.end(1), true);
        Due.is("feed goes on behind the end", box.feed(0x7D202020, 0x20202020, 0x20202020, 0x20202020, 0x20202020), true);
        Due.is("end(22)", box.end(22), false);
        Due.is("end(21)", box.end(21), true);
        Due.is("load of {}", Due.load(box), 0);
        Due.is("load of an empty tape", Due.load(box), Due.ILLEGAL_ARGUMENT);
        Due.is("error(0)", box.error(0), 1);
        Due.is("error(1)", box.error(1), 0);
    }

    /** "The tape's bytes (it is empty then, in any case)"; "IllegalArgumentException if they are wrong (the scene stays)". */
    private static void load() {
        OrreryBox box = used();
        String before = scene(box);
        Due.is("a wrong text", Due.load(box), Due.ILLEGAL_ARGUMENT);
        Due.is("the scene stays", scene(box).equals(before), true);
        Due.is("error(0)", box.error(0), 1);
        Due.is("error(1)", box.error(1), 9);
        Due.is("the tape is empty", box.end(1), false);
        Due.is("again", Due.load(box), Due.ILLEGAL_ARGUMENT);
        Due.is("error(1) is of the latest one", box.error(1), 0);
        Due.is("the scene stays", scene(box).equals(before), true);
        // Everything but the last } is right: what was read before it is not the scene.
        String text = Texts.redSquare();
        Due.is("nearly right", Due.load(box, text.substring(0, text.length() - 1)), Due.ILLEGAL_ARGUMENT);
        Due.is("the scene stays", scene(box).equals(before), true);
        Due.is("right", Due.load(box, text), 1);
        Due.is("error(0)", box.error(0), 0);
        Due.is("error(1)", box.error(1), 0);
        Due.is("the tape is empty", box.end(1), false);
        Due.is("a scene without anything", Due.load(box, "{}"), 0);
        for (int what = 0; what < 6; what++) {
            Due.is("count(" + what + ")", box.count(what), 0);
        }
        for (int what : new int[] {2, -1, MIN, MAX}) {
            Due.load(box, "{{");
            Due.is("error(" + what + ")", box.error(what), 0);
        }
    }

    private static String scene(OrreryBox box) {
        StringBuilder told = new StringBuilder();
        for (int what = 0; what < 6; what++) {
            told.append(box.count(what)).append(' ');
        }
        for (int k = 0; k < 36; k++) {
            told.append(box.world(k / 12, k % 12 / 4, k % 4)).append(' ');
        }
        for (int k = 0; k < 128; k += 7) {
            told.append(box.pick(k % 16, k / 16)).append(' ');
        }
        return told.toString();
    }

    private static void countAndTime() {
        for (int what : new int[] {-1, 6, 7, MIN, MAX}) {
            refused("count(" + what + ")", -1, b -> b.count(what));
            refused("error(" + what + ")", 0, b -> b.error(what));
        }
        for (int t : new int[] {-1, 1000001, MIN, MAX}) {
            refused("time(" + t + ")", 0, b -> bit(b.time(t)));
        }
        for (int t : new int[] {0, 1000000}) {
            OrreryBox box = used();
            Due.is("time(" + t + ")", box.time(t), true);
            Due.is("count(5)", box.count(5), t);
            Due.is("it is set", box.world(0, 0, 3), t == 0 ? 0 : 100);
        }
    }

    private static void nodes() {
        for (int node : new int[] {-1, 3, 47, 48, MIN, MAX}) {
            refused("set(" + node + ", ..)", 0, b -> bit(b.set(node, 0, 1, 1, 1)));
            refused("hang(" + node + ", -1)", 0, b -> bit(b.hang(node, -1)));
            refused("hang(" + node + ", 0)", 0, b -> bit(b.hang(node, 0)));
            refused("hide(" + node + ", true)", 0, b -> bit(b.hide(node, true)));
            refused("hide(" + node + ", false)", 0, b -> bit(b.hide(node, false)));
            refused("world(" + node + ", 0, 0)", Due.NO_SUCH_ELEMENT, b -> Due.world(b, node, 0, 0));
        }
        for (int what : new int[] {-1, 3, MIN, MAX}) {
            refused("set(1, " + what + ", ..)", 0, b -> bit(b.set(1, what, 1, 1, 1)));
            refused("world(1, " + what + ", 0)", Due.NO_SUCH_ELEMENT, b -> Due.world(b, 1, what, 0));
        }
        for (int j : new int[] {-1, 4, MIN, MAX}) {
            refused("world(1, 0, " + j + ")", Due.NO_SUCH_ELEMENT, b -> Due.world(b, 1, 0, j));
        }
        for (int what = 0; what < 3; what++) {
            int w = what;
            int most = what == 0 ? MOVE : TURN;
            for (int v : new int[] {most + 1, -most - 1, MIN, MAX}) {
                refused("set(1, " + w + ", x " + v, 0, b -> bit(b.set(1, w, v, 0, 0)));
                refused("set(1, " + w + ", y " + v, 0, b -> bit(b.set(1, w, 0, v, 0)));
                refused("set(1, " + w + ", z " + v, 0, b -> bit(b.set(1, w, 0, 0, v)));
            }
            for (int v : new int[] {most, -most}) {
                OrreryBox box = used();
                box.hang(1, -1);
                Due.is("set(1, " + w + ", " + v, box.set(1, w, v, -v, v), true);
                Due.is("it is", box.world(1, w == 0 ? 0 : w == 1 ? 1 : 0, w == 0 ? 3 : w == 1 ? 1 : 0), w == 1 ? 65536 : v);
                Due.is("it is", box.world(1, 1, w == 0 ? 3 : 1), w == 1 ? 65536 : -v);
            }
        }
        for (int parent : new int[] {-2, 1, 2, 3, MIN, MAX}) {
            refused("hang(1, " + parent + ")", 0, b -> bit(b.hang(1, parent)));
        }
        for (int parent : new int[] {-2, 0, 1, MIN, MAX}) {
            refused("hang(0, " + parent + ")", 0, b -> bit(b.hang(0, parent)));
        }
        refused("hang(0, -1), as it is", 1, b -> bit(b.hang(0, -1)));
        refused("hang(2, 1), as it is", 1, b -> bit(b.hang(2, 1)));
        refused("hide(0, false), as it is", 1, b -> bit(b.hide(0, false)));
    }

    private static void cameraAndLight() {
        for (int what : new int[] {-1, 3, MIN, MAX}) {
            refused("camera(" + what + ", ..)", 0, b -> bit(b.camera(what, 8, 8, 8)));
        }
        for (int x : new int[] {7, 513, 0, -8, MIN, MAX}) {
            refused("camera(2, " + x + ", ..)", 0, b -> bit(b.camera(2, x, 8, 8)));
        }
        for (int x : new int[] {8, 512}) {
            OrreryBox box = used();
            box.hide(1, true);
            Due.is("camera(2, " + x + ")", box.camera(2, x, MIN, MAX), true);
            // Node 0 reaches 32768 / 262144 of the focus to the left: one pixel with 8, 64 with 512.
            Due.is("as wide as that", box.pick(6, 4), x == 8 ? -1 : 0);
        }
        for (int what = 0; what < 2; what++) {
            int w = what;
            int most = what == 0 ? MOVE : TURN;
            for (int v : new int[] {most + 1, -most - 1, MIN, MAX}) {
                refused("camera(" + w + ", x " + v, 0, b -> bit(b.camera(w, v, 0, 0)));
                refused("camera(" + w + ", y " + v, 0, b -> bit(b.camera(w, 0, v, 0)));
                refused("camera(" + w + ", z " + v, 0, b -> bit(b.camera(w, 0, 0, v)));
            }
            refused("a whole turn", 1, b -> bit(b.camera(1, TURN, -TURN, TURN)));
        }
        for (int v : new int[] {65537, -65537, MIN, MAX}) {
            refused("light x " + v, 0, b -> bit(b.light(v, 0, 0, 0)));
            refused("light y " + v, 0, b -> bit(b.light(0, v, 0, 0)));
            refused("light z " + v, 0, b -> bit(b.light(0, 0, v, 0)));
            refused("ambient " + v, 0, b -> bit(b.light(0, 0, 0, v)));
        }
        refused("ambient -1", 0, b -> bit(b.light(0, 0, 0, -1)));
        int[][] fit = {{65536, -65536, 65536, 0}, {-65536, 65536, -65536, 65536}};
        for (int[] l : fit) {
            OrreryBox box = used();
            Due.is("light", box.light(l[0], l[1], l[2], l[3]), true);
            box.hide(1, true);
            Due.drawAll(box);
            Due.is("it is lit", box.pixel(8, 4), l[3] == 0 ? 0 : 250 * 65536 + 120 * 256 + 60);
        }
        for (int v : new int[] {-1, 256, MIN, MAX}) {
            refused("red " + v, 0, b -> bit(b.background(v, 9, 9)));
            refused("green " + v, 0, b -> bit(b.background(9, v, 9)));
            refused("blue " + v, 0, b -> bit(b.background(9, 9, v)));
        }
        for (int v : new int[] {0, 255}) {
            OrreryBox box = used();
            Due.is("background", box.background(v, 255 - v, v), true);
            Due.drawAll(box);
            Due.is("it is there", box.pixel(0, 0), v * 65536 + (255 - v) * 256 + v);
        }
    }

    private static void pictures() {
        int[][] outside = {{-1, 0}, {16, 0}, {8, -1}, {8, 8}, {MIN, 0}, {MAX, 0}, {8, MIN}, {8, MAX}};
        for (int[] p : outside) {
            refused("pixel(" + p[0] + ", " + p[1] + ")", -1, b -> b.pixel(p[0], p[1]));
            refused("nearness(" + p[0] + ", " + p[1] + ")", -1, b -> b.nearness(p[0], p[1]));
            OrreryBox box = used();
            Due.is("picked", box.picked() >= 0, true);
            Due.is("pick(" + p[0] + ", " + p[1] + ")", box.pick(p[0], p[1]), -1);
            Due.is("picked after one outside", box.picked(), -1);
        }
        for (int k : new int[] {-1, 2, 36, 63, 64, 65, MIN, MAX}) {
            refused("tile(" + k + ")", 0, b -> bit(b.tile(k)));
        }
        refused("tile(1), that was done", 0, b -> bit(b.tile(1)));
        refused("pixel of a tile that is not done", -1, b -> b.pixel(7, 7));
        refused("nearness of a tile that is not done", -1, b -> b.nearness(0, 0));
        refused("file of a picture that is not done", -1, b -> b.file());
        for (int k : new int[] {-1, 10000, MIN, MAX}) {
            refused("byteAt(" + k + ")", -1, b -> b.byteAt(k));
        }
    }

    /** "NONE if not all its tiles are done": whichever is missing. */
    private static void everyTileMissing() {
        for (int missing = 0; missing < 9; missing++) {
            OrreryBox box = new OrreryBox(24, 17);
            int tiles = box.begin();
            for (int k = tiles - 1; k >= 0; k--) {
                Due.is("tile", k == missing || box.tile(k), true);
            }
            Due.is("tile " + missing + " is missing", box.file(), -1);
            Due.is("no file", box.byteAt(0), -1);
            Due.is("the last tile", box.tile(missing), true);
            int size = box.file();
            Due.is("it is whole", size > 60, true);
            Due.is("the last byte", box.byteAt(size - 1), 130);
            Due.is("none behind it", box.byteAt(size), -1);
        }
    }

    /** "A picture of the scene begins, in place of another one, no tile of it done (also of a scene without nodes)". */
    private static void beginAgain() {
        OrreryBox box = used();
        Due.is("begin", box.begin(), 2);
        Due.is("not done", box.pixel(8, 4), -1);
        Due.is("not done", box.nearness(8, 4), -1);
        Due.is("tile(1)", box.tile(1), true);
        Due.is("begin", box.begin(), 2);
        Due.is("not done", box.pixel(8, 4), -1);
        Due.is("tile(1)", box.tile(1), true);
        box.end(0);
        Due.is("load", Due.load(box, "{}"), 0);
        Due.is("begin without nodes", box.begin(), 2);
        Due.is("not done", box.pixel(8, 4), -1);
        Due.is("tile(1)", box.tile(1), true);
        Due.is("the background", box.pixel(8, 4), 66051);
        Due.is("nearness", box.nearness(8, 4), 0);
    }

    public static void main(String[] args) {
        tape();
        load();
        countAndTime();
        nodes();
        cameraAndLight();
        pictures();
        everyTileMissing();
        beginAgain();
        Due.close("PromisesTest");
    }
}

/** Promises 1 to 3: a new object, and its tape. */
public final class NewObjectTest {
    private static void sizes() {
        int[][] sizes = {{8, 8, 1}, {7, 0, 1}, {Integer.MIN_VALUE, -1, 1}, {9, 8, 2}, {8, 17, 3}, {48, 48, 36},
            {49, 48, 36}, {Integer.MAX_VALUE, Integer.MAX_VALUE, 36}, {16, 24, 6}, {47, 41, 36}};
        for (int[] s : sizes) {
            Fresh box = new Fresh(s[0], s[1]);
            int width = Math.max(8, Math.min(48, s[0]));
            int height = Math.max(8, Math.min(48, s[1]));
            String name = "OrreryBox(" + s[0] + ", " + s[1] + ") ";
            Due.is(name + "begin", box.begin(), s[2]);
            Due.is(name + "last tile", box.tile(s[2] - 1), true);
            Due.is(name + "no such tile", box.tile(s[2]), false);
            Due.is(name + "last pixel", box.pixel(width - 1, height - 1), 0);
            Due.is(name + "pixel beyond", box.pixel(width, height - 1), OrreryBox.NONE);
            Due.is(name + "pixel below", box.pixel(width - 1, height), OrreryBox.NONE);
        }
    }

    private static void nothingThere() {
        Fresh box = new Fresh(16, 16);
        Due.is("NONE", OrreryBox.NONE, -1);
        for (int what = 0; what <= 5; what++) {
            Due.is("count(" + what + ")", box.count(what), 0);
        }
        Due.is("count(6)", box.count(6), -1);
        Due.is("count(-1)", box.count(-1), -1);
        Due.is("error(0)", box.error(0), 0);
        Due.is("error(1)", box.error(1), 0);
        Due.is("error(2)", box.error(2), 0);
        Due.is("pixel", box.pixel(0, 0), -1);
        Due.is("nearness", box.nearness(0, 0), -1);
        Due.is("tile", box.tile(0), false);
        Due.is("picked", box.picked(), -1);
        Due.is("pick", box.pick(3, 3), -1);
        Due.is("picked", box.picked(), -1);
        Due.is("file", box.file(), -1);
        Due.is("byteAt", box.byteAt(0), -1);
        Due.is("world", Due.world(box, 0, 0, 0), Due.NO_SUCH_ELEMENT);
        Due.is("set", box.set(0, 0, 0, 0, 0), false);
        Due.is("hang", box.hang(0, -1), false);
        Due.is("hide", box.hide(0, true), false);
        Due.is("time", box.time(7), true);
        Due.is("count(5)", box.count(5), 7);
        Due.is("end(1)", box.end(1), false);
        Due.is("end(0)", box.end(0), true);
        Due.is("load of nothing", Due.load(box), Due.ILLEGAL_ARGUMENT);
    }

    /** A scene that names the first camera and light has the same picture as one that leaves them out. */
    private static void firstCameraAndLight() {
        String scene = Texts.scene("", Texts.material(200, 100, 50, 255, -1, 0), Texts.square(0, 40000),
            Texts.node(-1, 0, 9000, 5000, 262144), "");
        String named = scene.substring(0, scene.length() - 1)
            + ",\"camera\":{\"move\":[0,0,0],\"turn\":[0,0,0],\"focus\":32},"
            + "\"light\":{\"toward\":[0,0,-65536],\"ambient\":16384}}";
        Fresh a = new Fresh(16, 16);
        Fresh b = new Fresh(16, 16);
        Due.is("load", Due.load(a, scene), 1);
        b.camera(0, 1, 2, 3);
        b.camera(2, 99, 0, 0);
        b.light(1, 2, 3, 4);
        Due.is("load", Due.load(b, named), 1);
        Due.drawAll(a);
        Due.drawAll(b);
        int drawn = 0;
        for (int i = 0; i < 256; i++) {
            Due.is("pixel " + i, a.pixel(i % 16, i / 16), b.pixel(i % 16, i / 16));
            drawn += a.pixel(i % 16, i / 16) != 0 ? 1 : 0;
        }
        Due.is("something is drawn", drawn > 20 && drawn < 200, true);
    }

    private static void tape() {
        Fresh box = new Fresh(8, 8);
        Due.is("feed", box.feed(('{' << 24) + ('}' << 16) + ('x' << 8), 0, 0, 0, 0), true);
        Due.is("end(21)", box.end(21), false);
        Due.is("end(-1)", box.end(-1), false);
        Due.is("end(MIN)", box.end(Integer.MIN_VALUE), false);
        Due.is("end(20)", box.end(20), true);
        Due.is("end(3)", box.end(3), true);
        Due.is("end(4)", box.end(4), false);
        Due.is("end(2)", box.end(2), true);
        Due.is("load", Due.load(box), 0);
        Due.is("the tape is empty", box.end(1), false);
        Due.is("load", Due.load(box), Due.ILLEGAL_ARGUMENT);
        box.feed(0x7B202020, 0x20202020, 0x20202020, 0x20202020, 0x20202020);
        box.feed(0x20202020, 0x20202020, 0x20202020, 0x20202020, 0x2020207D);
        Due.is("end(40)", box.end(40), true);
        Due.is("load of { and, 39 bytes later, }", Due.load(box), 0);
        box.feed(0x7B7BFFFF, -1, -1, -1, -1);
        Due.is("end(2)", box.end(2), true);
        Due.is("load of {{", Due.load(box), Due.ILLEGAL_ARGUMENT);
        Due.is("the tape is empty after a wrong load, too", box.end(1), false);
        Due.is("error(1)", box.error(1), 1);
    }

    /** The one test with more calls than the document promises anything for: the tape has no end that fewer could meet. */
    private static void fullTape() {
        OrreryBox box = new OrreryBox(8, 8);
        for (int i = 0; i < 3276; i++) {
            Due.is("feed " + i, box.feed(0x20202020, 0x20202020, 0x20202020, 0x20202020, 0x20202020), true);
        }
        Due.is("no room for twenty more", box.feed(1, 2, 3, 4, 5), false);
        Due.is("end(65521)", box.end(65521), false);
        Due.is("end(65520)", box.end(65520), true);
        Due.is("end(65517)", box.end(65517), true);
        Due.is("one byte too few", box.feed(1, 2, 3, 4, 5), false);
        Due.is("end(65516)", box.end(65516), true);
        Due.is("just room for twenty more", box.feed(0x20202020, 0x20202020, 0x20202020, 0x20202020, 0x20207B7D), true);
        Due.is("it is full", box.feed(1, 2, 3, 4, 5), false);
        Due.is("load", box.load(), 0);
    }

    public static void main(String[] args) {
        sizes();
        fullTape();
        nothingThere();
        firstCameraAndLight();
        tape();
        Due.close("NewObjectTest");
    }
}

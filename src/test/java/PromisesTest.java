import java.util.function.ToLongFunction;

/** The sentences of the promises that name a boundary: what is refused changes nothing, and what is just allowed does. */
public final class PromisesTest {
    private static final int MIN = Integer.MIN_VALUE;
    private static final int MAX = Integer.MAX_VALUE;
    private static final int MOVE = 4194304;
    private static final int TURN = 1048576;

    /** Three nodes, one below the other, with a track; a picture half drawn, a file, a pick, half a text on the tape. */
    private static Fresh used() {
        Fresh box = new Fresh(16, 8);
        String nodes = Texts.node(-1, 0, 0, 0, 262144) + "," + Texts.node(0, 0, 30000, 10000, -60000) + ","
            + Texts.node(1, -1, 5, 6, 7);
        Due.load(box, Texts.scene("", Texts.material(250, 120, 60, 255, -1, 0), Texts.square(0, 32768), nodes,
            Texts.track(0, 0, 1, "0,100", "0,0,262144,100,0,262144")));
        box.time(50);
        box.background(1, 2, 3);
        Due.drawAll(box);
        box.file();
        box.begin();
        box.tile(1);
        box.pick(8, 4);
        Due.tape(box, "{\"nodes\":");
        return box;
    }

    /** What all calls answer, put down in a row; the tape's text is ended and loaded at last. */
    private static String told(Fresh box) {
        StringBuilder told = new StringBuilder();
        for (int what = 0; what < 6; what++) {
            told.append(box.count(what)).append(' ').append(box.error(what)).append(' ');
        }
        told.append("picked ").append(box.picked()).append(" byte ").append(box.byteAt(60)).append(' ');
        for (int node = 0; node < 3; node++) {
            for (int k = 0; k < 12; k++) {
                told.append(box.world(node, k / 4, k % 4)).append(' ');
            }
        }
        for (int k = 0; k < 128; k += 3) {
            told.append(box.pixel(k % 16, k / 16)).append(' ').append(box.nearness(k % 16, k / 16)).append(' ');
        }
        told.append(box.tile(1)).append(box.tile(0)).append(box.file()).append(' ').append(box.begin());
        for (int k = 0; k < 128; k += 3) {
            told.append(' ').append(box.pick(k % 16, k / 16)).append(' ').append(box.picked());
        }
        told.append(box.tile(0)).append(box.tile(1)).append(box.file());
        for (int k = 41; k < 90; k++) {
            told.append(' ').append(box.byteAt(k));
        }
        told.append(box.feed(0x5B5D7D20, 0x20202020, 0x20202020, 0x20202020, 0x20202020));
        return told.append(Due.load(box)).append(' ').append(box.count(3)).toString();
    }

    private static final String DUE = told(used());

    private static void refused(String name, long due, ToLongFunction<Fresh> call) {
        Fresh box = used();
        Due.is(name, call.applyAsLong(box), due);
        Due.is("nothing has changed after " + name, told(box).equals(DUE), true);
    }

    private static long bit(boolean is) {
        return is ? 1 : 0;
    }

    private static void tape() {
        int[] none = {-1, 10, 20, 65536, 65537, MIN, MAX};
        for (int n : none) {
            refused("end(" + n + ")", 0, b -> bit(b.end(n)));
        }
        refused("end(9), as it is", 1, b -> bit(b.end(9)));
        Fresh box = new Fresh(8, 8);
        Due.is("end(0) of an empty tape", box.end(0), true);
        Due.is("end(1) of an empty tape", box.end(1), false);
        Due.is("feed", box.feed(0x7B787878, 0x78787878, 0x78787878, 0x78787878, 0x78787878), true);
        Due.is("end(21)", box.end(21), false);
        Due.is("end(1)", box.end(1), true);
        Due.is("feed goes on behind the end", box.feed(0x7D202020, 0x20202020, 0x20202020, 0x20202020, 0x20202020), true);
        Due.is("end(22)", box.end(22), false);
        Due.is("end(21)", box.end(21), true);
        Due.is("load of {}", Due.load(box), 0);
        Due.is("load of an empty tape", Due.load(box), Due.ILLEGAL_ARGUMENT);
        Due.is("error(0)", box.error(0), 1);
        Due.is("error(1)", box.error(1), 0);
    }

    /** "The tape's bytes (it is empty then, in any case)"; "IllegalArgumentException if they are wrong (the scene stays)". */
    private static void load() {
        Fresh box = used();
        String before = scene(box);
        Due.is("a wrong text", Due.load(box), Due.ILLEGAL_ARGUMENT);
        Due.is("the scene stays", scene(box).equals(before), true);
        Due.is("error(0)", box.error(0), 1);
        Due.is("error(1)", box.error(1), 9);
        Due.is("the tape is empty", box.end(1), false);
        Due.is("again", Due.load(box), Due.ILLEGAL_ARGUMENT);
        Due.is("error(1) is of the latest one", box.error(1), 0);
        Due.is("the scene stays", scene(box).equals(before), true);
        // Everything but the last } is right: what was read before it is not the scene.
        String text = Texts.redSquare();
        Due.is("nearly right", Due.load(box, text.substring(0, text.length() - 1)), Due.ILLEGAL_ARGUMENT);
        Due.is("the scene stays", scene(box).equals(before), true);
        Due.is("right", Due.load(box, text), 1);
        Due.is("error(0)", box.error(0), 0);
        Due.is("error(1)", box.error(1), 0);
        Due.is("the tape is empty", box.end(1), false);
        Due.is("a scene without anything", Due.load(box, "{}"), 0);
        for (int what = 0; what < 6; what++) {
            Due.is("count(" + what + ")", box.count(what), 0);
        }
        for (int what : new int[] {2, -1, MIN, MAX}) {
            Due.load(box, "{{");
            Due.is("error(" + what + ")", box.error(what), 0);
        }
    }

    /** "the first camera and light where one is missing": also after others, set by hand or named in a text. */
    private static void firstOnesAgain() {
        String text = Texts.redSquare();
        String named = text.substring(0, text.length() - 1)
            + ",\"camera\":{\"move\":[4,5,6],\"turn\":[7,8,9],\"focus\":77},\"light\":{\"toward\":[0,0,65536],\"ambient\":7}}";
        for (int way = 0; way < 2; way++) {
            Fresh box = new Fresh(16, 16);
            Due.is("load", Due.load(box, way == 0 ? named : text), 1);
            if (way == 1) {
                box.camera(0, 70000, 0, 0);
                box.camera(1, 0, 0, 700);
                box.camera(2, 100, 0, 0);
                box.light(0, 0, 65536, 7);
            }
            Due.is("load", Due.load(box, text.replace("262144", "524288")), 1);
            Due.drawAll(box);
            // Half as wide as the picture, with the first focus; all of it lit.
            for (int i = 0; i < 256; i++) {
                boolean in = i % 16 >= 4 && i % 16 < 12 && i / 16 >= 4 && i / 16 < 12;
                Due.is("pixel " + i + ", way " + way, box.pixel(i % 16, i / 16), in ? 0xFF0000 : 0);
            }
        }
        // 16384 of ambient is a quarter where the light does not reach: a normal the other way.
        Fresh box = new Fresh(16, 16);
        box.light(0, 0, 0, 65536);
        Due.load(box, text.replace("0,0,-65536", "0,0,65536"));
        Due.drawAll(box);
        Due.is("the first ambient", box.pixel(8, 8), 63 * 65536);
    }

    /** The first light to the very number: 16384 and 49151 of -65536 are one less than all of it. */
    private static void firstLight() {
        int[][] due = {{0, 0, -49151, 254}, {0, 0, -49152, 255}, {65536, 0, -49151, 254}, {-65536, 0, -49151, 254},
            {0, 65536, -49151, 254}, {0, -65536, -49151, 254}, {65536, 65536, -49152, 255}, {-65536, -65536, -49152, 255}};
        for (int[] d : due) {
            for (int loads = 1; loads < 5; loads += 3) {
                Fresh box = new Fresh(16, 16);
                String normal = d[0] + "," + d[1] + "," + d[2];
                for (int i = 0; i < loads; i++) {
                    Due.is("load", Due.load(box, Texts.redSquare().replace("0,0,-65536", normal)), 1);
                    if (i + 1 < loads) {
                        box.light(i, 9, 9, 9);
                    }
                }
                box.begin();
                box.tile(0);
                Due.is("lit at " + normal, box.pixel(4, 4), d[3] * 65536);
            }
        }
    }

    /** What a text says of a node, the camera and the light is what the calls could have said. */
    private static void asTheCallsSay() {
        String square = Texts.scene("", Texts.material(250, 120, 60, 255, -1, 1), Texts.square(0, 40000),
            "{\"parent\":-1,\"mesh\":0,\"move\":[1,2,262143],\"turn\":[3,50,7],\"size\":[70000,80000,90000]}", "");
        String named = square.substring(0, square.length() - 1) + ",\"camera\":{\"move\":[20000,3000,-40000],"
            + "\"turn\":[60,-50,400],\"focus\":41},\"light\":{\"toward\":[-9000,7000,-20000],\"ambient\":11}}";
        Fresh told = new Fresh(16, 16);
        Fresh called = new Fresh(16, 16);
        Due.is("load", Due.load(told, named), 1);
        Due.is("load", Due.load(called, square.replace("1,2,262143", "0,0,0").replace("3,50,7", "0,0,0")
            .replace("70000,80000,90000", "0,0,0")), 1);
        called.set(0, 0, 1, 2, 262143);
        called.set(0, 1, 3, 50, 7);
        called.set(0, 2, 70000, 80000, 90000);
        called.camera(0, 20000, 3000, -40000);
        called.camera(1, 60, -50, 400);
        called.camera(2, 41, 0, 0);
        called.light(-9000, 7000, -20000, 11);
        for (int k = 0; k < 12; k++) {
            Due.is("world " + k, told.world(0, k / 4, k % 4), called.world(0, k / 4, k % 4));
        }
        Due.is("its turn about x", told.world(0, 2, 1) > 0 && told.world(0, 0, 2) > 0 && told.world(0, 1, 0) > 0, true);
        Due.drawAll(told);
        Due.drawAll(called);
        int drawn = 0;
        for (int i = 0; i < 256; i++) {
            Due.is("pixel " + i, told.pixel(i % 16, i / 16), called.pixel(i % 16, i / 16));
            drawn += told.pixel(i % 16, i / 16) > 0 ? 1 : 0;
        }
        Due.is("a part of the picture", drawn > 40 && drawn < 216, true);
    }

    /** Scene after scene in the same object: nothing of an earlier one is left in a later one. */
    private static void sceneAfterScene() {
        String full = Texts.scene(Texts.repeat(Texts.texture(4, 1, 1, Texts.repeat("9", 48)), 3),
            Texts.repeat(Texts.material(9, 9, 9, 9, 2, 1), 6), Texts.square(5, 65536), Texts.repeat(Texts.node(-1, 0, 9, 9, 9), 6),
            Texts.repeat(Texts.track(3, 1, 1, "1,2", "1,2,3,4,5,6"), 4));
        String named = full.substring(0, full.length() - 1)
            + ",\"camera\":{\"move\":[40000,50000,60000],\"turn\":[700,800,900],\"focus\":77},"
            + "\"light\":{\"toward\":[1,2,65536],\"ambient\":7}}";
        String small = Texts.scene(Texts.texture(2, 0, 0, "255,0,0,0,255,0,0,0,255,99,98,97"),
            Texts.material(255, 255, 255, 255, 0, 0), Texts.square(0, 8000), Texts.node(-1, 0, 0, 0, 262144), "");
        for (int loads = 0; loads <= 4; loads++) {
            Fresh box = new Fresh(16, 16);
            Fresh fresh = new Fresh(16, 16);
            for (int i = 0; i < loads; i++) {
                Due.is("load", Due.load(box, named), 6);
                box.time(44);
                box.hide(0, true);
                if (i == 1) {
                    box.begin();
                }
            }
            Due.is("load", Due.load(box, "{}"), 0);
            for (int what = 0; what < 6; what++) {
                Due.is("count(" + what + ") after " + loads, box.count(what), 0);
            }
            Due.is("load", Due.load(box, small), 1);
            Due.is("load", Due.load(fresh, small), 1);
            Due.is("time", box.count(5), 0);
            box.begin();
            fresh.begin();
            for (int k = 0; k < 4; k++) {
                Due.is("tile", box.tile(k), fresh.tile(k));
            }
            for (int i = 5; i < 11; i++) {
                for (int j = 5; j < 11; j++) {
                    Due.is("pixel after " + loads, box.pixel(i, j), fresh.pixel(i, j));
                    Due.is("pick after " + loads, box.pick(i, j), fresh.pick(i, j));
                }
            }
        }
    }

    private static String scene(Fresh box) {
        StringBuilder told = new StringBuilder();
        for (int what = 0; what < 6; what++) {
            told.append(box.count(what)).append(' ');
        }
        for (int k = 0; k < 36; k++) {
            told.append(box.world(k / 12, k % 12 / 4, k % 4)).append(' ');
        }
        for (int k = 0; k < 128; k += 7) {
            told.append(box.pick(k % 16, k / 16)).append(' ');
        }
        return told.toString();
    }

    private static void countAndTime() {
        for (int what : new int[] {-1, 6, 7, MIN, MAX}) {
            refused("count(" + what + ")", -1, b -> b.count(what));
            refused("error(" + what + ")", 0, b -> b.error(what));
        }
        for (int t : new int[] {-1, 1000001, MIN, MAX}) {
            refused("time(" + t + ")", 0, b -> bit(b.time(t)));
        }
        for (int t : new int[] {0, 1000000}) {
            Fresh box = used();
            Due.is("time(" + t + ")", box.time(t), true);
            Due.is("count(5)", box.count(5), t);
            Due.is("it is set", box.world(0, 0, 3), t == 0 ? 0 : 100);
        }
    }

    private static void nodes() {
        for (int node : new int[] {-1, 3, 47, 48, MIN, MAX}) {
            refused("set(" + node + ", ..)", 0, b -> bit(b.set(node, 0, 1, 1, 1)));
            refused("hang(" + node + ", -1)", 0, b -> bit(b.hang(node, -1)));
            refused("hang(" + node + ", 0)", 0, b -> bit(b.hang(node, 0)));
            refused("hide(" + node + ", true)", 0, b -> bit(b.hide(node, true)));
            refused("hide(" + node + ", false)", 0, b -> bit(b.hide(node, false)));
            refused("world(" + node + ", 0, 0)", Due.NO_SUCH_ELEMENT, b -> Due.world(b, node, 0, 0));
        }
        for (int what : new int[] {-1, 3, MIN, MAX}) {
            refused("set(1, " + what + ", ..)", 0, b -> bit(b.set(1, what, 1, 1, 1)));
            refused("world(1, " + what + ", 0)", Due.NO_SUCH_ELEMENT, b -> Due.world(b, 1, what, 0));
        }
        for (int j : new int[] {-1, 4, MIN, MAX}) {
            refused("world(1, 0, " + j + ")", Due.NO_SUCH_ELEMENT, b -> Due.world(b, 1, 0, j));
        }
        for (int what = 0; what < 3; what++) {
            int w = what;
            int most = what == 0 ? MOVE : TURN;
            for (int v : new int[] {most + 1, -most - 1, MIN, MAX}) {
                refused("set(1, " + w + ", x " + v, 0, b -> bit(b.set(1, w, v, 0, 0)));
                refused("set(1, " + w + ", y " + v, 0, b -> bit(b.set(1, w, 0, v, 0)));
                refused("set(1, " + w + ", z " + v, 0, b -> bit(b.set(1, w, 0, 0, v)));
            }
            for (int v : new int[] {most, -most}) {
                Fresh box = used();
                box.hang(1, -1);
                Due.is("set(1, " + w + ", " + v, box.set(1, w, v, -v, v), true);
                Due.is("it is", box.world(1, w == 0 ? 0 : w == 1 ? 1 : 0, w == 0 ? 3 : w == 1 ? 1 : 0), w == 1 ? 65536 : v);
                Due.is("it is", box.world(1, 1, w == 0 ? 3 : 1), w == 1 ? 65536 : -v);
            }
        }
        for (int parent : new int[] {-2, 1, 2, 3, MIN, MAX}) {
            refused("hang(1, " + parent + ")", 0, b -> bit(b.hang(1, parent)));
        }
        for (int parent : new int[] {-2, 0, 1, MIN, MAX}) {
            refused("hang(0, " + parent + ")", 0, b -> bit(b.hang(0, parent)));
        }
        refused("hang(0, -1), as it is", 1, b -> bit(b.hang(0, -1)));
        refused("hang(2, 1), as it is", 1, b -> bit(b.hang(2, 1)));
        refused("hide(0, false), as it is", 1, b -> bit(b.hide(0, false)));
    }

    private static void cameraAndLight() {
        for (int what : new int[] {-1, 3, MIN, MAX}) {
            refused("camera(" + what + ", ..)", 0, b -> bit(b.camera(what, 8, 8, 8)));
        }
        for (int x : new int[] {7, 513, 0, -8, MIN, MAX}) {
            refused("camera(2, " + x + ", ..)", 0, b -> bit(b.camera(2, x, 8, 8)));
        }
        for (int x : new int[] {8, 512}) {
            Fresh box = used();
            box.hide(1, true);
            Due.is("camera(2, " + x + ")", box.camera(2, x, MIN, MAX), true);
            // Node 0 reaches 32768 / 262144 of the focus to the left: one pixel with 8, 64 with 512.
            Due.is("as wide as that", box.pick(6, 4), x == 8 ? -1 : 0);
        }
        for (int what = 0; what < 2; what++) {
            int w = what;
            int most = what == 0 ? MOVE : TURN;
            for (int v : new int[] {most + 1, -most - 1, MIN, MAX}) {
                refused("camera(" + w + ", x " + v, 0, b -> bit(b.camera(w, v, 0, 0)));
                refused("camera(" + w + ", y " + v, 0, b -> bit(b.camera(w, 0, v, 0)));
                refused("camera(" + w + ", z " + v, 0, b -> bit(b.camera(w, 0, 0, v)));
            }
            refused("a whole turn", 1, b -> bit(b.camera(1, TURN, -TURN, TURN)));
        }
        for (int v : new int[] {65537, -65537, MIN, MAX}) {
            refused("light x " + v, 0, b -> bit(b.light(v, 0, 0, 0)));
            refused("light y " + v, 0, b -> bit(b.light(0, v, 0, 0)));
            refused("light z " + v, 0, b -> bit(b.light(0, 0, v, 0)));
            refused("ambient " + v, 0, b -> bit(b.light(0, 0, 0, v)));
        }
        refused("ambient -1", 0, b -> bit(b.light(0, 0, 0, -1)));
        int[][] fit = {{65536, -65536, 65536, 0}, {-65536, 65536, -65536, 65536}};
        for (int[] l : fit) {
            Fresh box = used();
            Due.is("light", box.light(l[0], l[1], l[2], l[3]), true);
            box.hide(1, true);
            Due.drawAll(box);
            Due.is("it is lit", box.pixel(8, 4), l[3] == 0 ? 0 : 250 * 65536 + 120 * 256 + 60);
        }
        for (int v : new int[] {-1, 256, MIN, MAX}) {
            refused("red " + v, 0, b -> bit(b.background(v, 9, 9)));
            refused("green " + v, 0, b -> bit(b.background(9, v, 9)));
            refused("blue " + v, 0, b -> bit(b.background(9, 9, v)));
        }
        for (int v : new int[] {0, 255}) {
            Fresh box = used();
            Due.is("background", box.background(v, 255 - v, v), true);
            Due.drawAll(box);
            Due.is("it is there", box.pixel(0, 0), v * 65536 + (255 - v) * 256 + v);
        }
    }

    private static void pictures() {
        int[][] outside = {{-1, 0}, {16, 0}, {8, -1}, {8, 8}, {MIN, 0}, {MAX, 0}, {8, MIN}, {8, MAX}};
        for (int[] p : outside) {
            refused("pixel(" + p[0] + ", " + p[1] + ")", -1, b -> b.pixel(p[0], p[1]));
            refused("nearness(" + p[0] + ", " + p[1] + ")", -1, b -> b.nearness(p[0], p[1]));
            Fresh box = used();
            Due.is("picked", box.picked() >= 0, true);
            Due.is("pick(" + p[0] + ", " + p[1] + ")", box.pick(p[0], p[1]), -1);
            Due.is("picked after one outside", box.picked(), -1);
        }
        for (int k : new int[] {-1, 2, 36, 63, 64, 65, MIN, MAX}) {
            refused("tile(" + k + ")", 0, b -> bit(b.tile(k)));
        }
        refused("tile(1), that was done", 0, b -> bit(b.tile(1)));
        refused("pixel of a tile that is not done", -1, b -> b.pixel(7, 7));
        refused("nearness of a tile that is not done", -1, b -> b.nearness(0, 0));
        refused("file of a picture that is not done", -1, b -> b.file());
        for (int k : new int[] {-1, 10000, MIN, MAX}) {
            refused("byteAt(" + k + ")", -1, b -> b.byteAt(k));
        }
    }

    /** What is outside is NONE, though a piece may reach far beyond the picture and all tiles are done. */
    private static void outside() {
        Fresh box = new Fresh(16, 16);
        Due.load(box, Texts.scene("", Texts.material(255, 0, 0, 255, -1, 1), Texts.square(0, 1048576),
            Texts.node(-1, 0, 0, 0, 262144), ""));
        Due.drawAll(box);
        int[][] out = {{-1, 5}, {16, 5}, {5, -1}, {5, 16}, {-1, 15}, {16, 0}, {-8, 8}, {24, 8}, {8, -8}, {8, 24}, {-1, -1}};
        for (int[] p : out) {
            Due.is("pixel", box.pixel(p[0], p[1]), -1);
            Due.is("nearness", box.nearness(p[0], p[1]), -1);
            Due.is("pick", box.pick(0, 15), 0);
            Due.is("pick outside", box.pick(p[0], p[1]), -1);
            Due.is("picked", box.picked(), -1);
        }
        int[][] in = {{0, 0}, {15, 0}, {0, 15}, {15, 15}};
        for (int[] p : in) {
            Due.is("pixel", box.pixel(p[0], p[1]), 0xFF0000);
            Due.is("nearness", box.nearness(p[0], p[1]), 16384);
            Due.is("pick", box.pick(p[0], p[1]), 0);
            Due.is("picked", box.picked() >= 0, true);
        }
    }

    /** "NONE if not all its tiles are done": whichever is missing. */
    private static void everyTileMissing() {
        for (int missing = 0; missing < 9; missing++) {
            Fresh box = new Fresh(24, 17);
            int tiles = box.begin();
            for (int k = tiles - 1; k >= 0; k--) {
                Due.is("tile", k == missing || box.tile(k), true);
            }
            Due.is("tile " + missing + " is missing", box.file(), -1);
            Due.is("no file", box.byteAt(0), -1);
            Due.is("the last tile", box.tile(missing), true);
            int size = box.file();
            Due.is("it is whole", size > 60, true);
            Due.is("the last byte", box.byteAt(size - 1), 130);
            Due.is("none behind it", box.byteAt(size), -1);
        }
    }

    /** "A picture of the scene begins, in place of another one, no tile of it done (also of a scene without nodes)". */
    private static void beginAgain() {
        Fresh box = used();
        Due.is("begin", box.begin(), 2);
        Due.is("not done", box.pixel(8, 4), -1);
        Due.is("not done", box.nearness(8, 4), -1);
        Due.is("tile(1)", box.tile(1), true);
        Due.is("begin", box.begin(), 2);
        Due.is("not done", box.pixel(8, 4), -1);
        Due.is("tile(1)", box.tile(1), true);
        box.end(0);
        Due.is("load", Due.load(box, "{}"), 0);
        Due.is("begin without nodes", box.begin(), 2);
        Due.is("not done", box.pixel(8, 4), -1);
        Due.is("tile(1)", box.tile(1), true);
        Due.is("the background", box.pixel(8, 4), 66051);
        Due.is("nearness", box.nearness(8, 4), 0);
    }

    public static void main(String[] args) {
        tape();
        load();
        firstOnesAgain();
        firstLight();
        asTheCallsSay();
        sceneAfterScene();
        countAndTime();
        nodes();
        cameraAndLight();
        pictures();
        outside();
        everyTileMissing();
        beginAgain();
        Due.close("PromisesTest");
    }
}

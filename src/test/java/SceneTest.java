/** Promises 7 to 14: time, set, hang, hide, camera, light, background, world. */
public final class SceneTest {
    private static final int MOST = 1048576;

    private static Fresh twoNodes() {
        Fresh box = new Fresh(16, 16);
        Due.is("load", Due.load(box, Texts.scene("", "", "", Texts.node(-1, -1, 1000, 2000, 3000) + ","
            + Texts.node(0, -1, 10, 20, 30), "")), 2);
        return box;
    }

    private static void worldIs(Fresh box, int node, long... due) {
        for (int k = 0; k < 12; k++) {
            Due.is("world(" + node + ", " + k / 4 + ", " + k % 4 + ")", box.world(node, k / 4, k % 4), due[k]);
        }
    }

    private static void world() {
        Fresh box = twoNodes();
        worldIs(box, 0, 65536, 0, 0, 1000, 0, 65536, 0, 2000, 0, 0, 65536, 3000);
        worldIs(box, 1, 65536, 0, 0, 1010, 0, 65536, 0, 2020, 0, 0, 65536, 3030);
        int[][] none = {{-1, 0, 0}, {2, 0, 0}, {0, -1, 0}, {0, 3, 0}, {0, 0, -1}, {0, 0, 4},
            {Integer.MIN_VALUE, 0, 0}, {0, Integer.MAX_VALUE, 0}, {0, 0, Integer.MIN_VALUE}};
        for (int[] n : none) {
            Due.is("no such world", Due.world(box, n[0], n[1], n[2]), Due.NO_SUCH_ELEMENT);
        }
        Due.is("set", box.set(0, 1, 1024, 0, 0), true);
        worldIs(box, 0, 65536, 0, 0, 1000, 0, 0, -65536, 2000, 0, 65536, 0, 3000);
        worldIs(box, 1, 65536, 0, 0, 1010, 0, 0, -65536, 1970, 0, 65536, 0, 3020);
        box.set(0, 1, 0, 1024, 0);
        worldIs(box, 0, 0, 0, 65536, 1000, 0, 65536, 0, 2000, -65536, 0, 0, 3000);
        box.set(0, 1, 0, 0, 1024);
        worldIs(box, 0, 0, -65536, 0, 1000, 65536, 0, 0, 2000, 0, 0, 65536, 3000);
        box.set(0, 1, 0, 0, -3072);
        worldIs(box, 0, 0, -65536, 0, 1000, 65536, 0, 0, 2000, 0, 0, 65536, 3000);
        box.set(0, 1, 0, 0, 1024 + 4096 * 255);
        worldIs(box, 0, 0, -65536, 0, 1000, 65536, 0, 0, 2000, 0, 0, 65536, 3000);
        // SIN(512): p = 786432, 824633720832 / 17825792 is 46260.7; SIN(1536) is as much.
        box.set(0, 1, 0, 0, 512);
        worldIs(box, 0, 46260, -46260, 0, 1000, 46260, 46260, 0, 2000, 0, 0, 65536, 3000);
        // SIN(-512) is -46260; rounding goes down: MUL(46260, -46260) is -32654 where 32653 is left above 0.
        box.set(0, 1, 512, 512, 0);
        worldIs(box, 0, 46260, 32653, 32653, 1000, 0, 46260, -46260, 2000, -46260, 32653, 32653, 3000);
        box.set(0, 1, -512, 512, 0);
        worldIs(box, 0, 46260, -32654, 32653, 1000, 0, 46260, 46260, 2000, -46260, -32654, 32653, 3000);
        // The order Y, X, Z: a quarter about each.
        box.set(0, 1, 1024, 1024, 1024);
        worldIs(box, 0, 65536, 0, 0, 1000, 0, 0, -65536, 2000, 0, 65536, 0, 3000);
        // A size stretches columns, and rounds down.
        box.set(0, 1, 0, 0, 1024);
        box.set(0, 2, 32768, -3, 131072);
        worldIs(box, 0, 0, 3, 0, 1000, 32768, 0, 0, 2000, 0, 0, 131072, 3000);
        box.set(0, 1, 0, 0, 512);
        worldIs(box, 0, 23130, 2, 0, 1000, 23130, -3, 0, 2000, 0, 0, 131072, 3000);
    }

    private static void bounds() {
        Fresh box = new Fresh(16, 16);
        Due.load(box, Texts.scene("", "", "", Texts.nodes(4), ""));
        for (int i = 0; i < 4; i++) {
            box.set(i, 2, MOST, -MOST, 65536);
            box.set(i, 0, 4194304, -4194304, 4194304);
        }
        worldIs(box, 0, MOST, 0, 0, 4194304, 0, -MOST, 0, -4194304, 0, 0, 65536, 4194304);
        worldIs(box, 1, 16777216, 0, 0, 16777216, 0, 16777216, 0, 16777216, 0, 0, 65536, 8388608);
        worldIs(box, 2, 16777216, 0, 0, 16777216, 0, -16777216, 0, -16777216, 0, 0, 65536, 12582912);
        worldIs(box, 3, 16777216, 0, 0, 16777216, 0, 16777216, 0, 16777216, 0, 0, 65536, 16777216);
    }

    private static void set() {
        Fresh box = twoNodes();
        int[] most = {4194304, MOST, MOST};
        for (int what = 0; what < 3; what++) {
            int m = most[what];
            Due.is("set", box.set(1, what, m, -m, m), true);
            Due.is("x too great", box.set(1, what, m + 1, 0, 0), false);
            Due.is("y too great", box.set(1, what, 0, m + 1, 0), false);
            Due.is("z too great", box.set(1, what, 0, 0, m + 1), false);
            Due.is("x too small", box.set(1, what, -m - 1, 0, 0), false);
            Due.is("y too small", box.set(1, what, 0, -m - 1, 0), false);
            Due.is("z too small", box.set(1, what, 0, 0, Integer.MIN_VALUE), false);
        }
        Due.is("no such what", box.set(1, 3, 0, 0, 0), false);
        Due.is("no such what", box.set(1, -1, 0, 0, 0), false);
        Due.is("no such node", box.set(2, 0, 0, 0, 0), false);
        Due.is("no such node", box.set(-1, 0, 0, 0, 0), false);
        // A turn of 1048576 is 256 whole ones.
        worldIs(box, 1, MOST, 0, 0, 4195304, 0, -MOST, 0, -4192304, 0, 0, MOST, 4197304);
    }

    private static void hang() {
        Fresh box = new Fresh(16, 16);
        Due.load(box, Texts.scene("", "", "", Texts.node(-1, -1, 1, 0, 0) + "," + Texts.node(-1, -1, 10, 0, 0) + ","
            + Texts.node(1, -1, 100, 0, 0), ""));
        Due.is("as it is", box.world(2, 0, 3), 110);
        Due.is("hang", box.hang(2, 0), true);
        Due.is("below 0", box.world(2, 0, 3), 101);
        Due.is("hang", box.hang(1, 0), true);
        Due.is("hang", box.hang(2, 1), true);
        Due.is("below 1 below 0", box.world(2, 0, 3), 111);
        Due.is("hang", box.hang(2, -1), true);
        Due.is("below none", box.world(2, 0, 3), 100);
        Due.is("itself", box.hang(2, 2), false);
        Due.is("one behind it", box.hang(1, 2), false);
        Due.is("no such parent", box.hang(2, -2), false);
        Due.is("no such parent", box.hang(2, 3), false);
        Due.is("no such node", box.hang(3, 0), false);
        Due.is("no such node", box.hang(-1, -1), false);
        Due.is("the first one has none before it", box.hang(0, 0), false);
        Due.is("but none is right", box.hang(0, -1), true);
        Due.is("nothing has changed", box.world(2, 0, 3), 100);
        Due.is("nothing has changed", box.world(1, 0, 3), 11);
    }

    private static void time() {
        Fresh box = new Fresh(16, 16);
        String tracks = Texts.track(0, 0, 0, "10,20", "1,2,3,101,102,103") + ","
            + Texts.track(1, 0, 1, "10,13", "100,-100,0,200,-200,1") + ","
            + Texts.track(2, 0, 2, "100,200", "0,0,65536,65536,-65536,0") + ","
            + Texts.track(3, 0, 0, "0", "7,7,7") + "," + Texts.track(3, 0, 0, "5", "8,9,10") + ","
            + Texts.track(4, 2, 1, "0,10", "0,0,0,65536,65536,131072") + "," + Texts.track(4, 1, 0, "0,50",
            "0,0,0,0,0,1024");
        Due.is("load", Due.load(box, Texts.scene("", "", "", Texts.repeat(Texts.node(-1, -1, 5, 5, 5), 5), tracks)), 5);
        Due.is("nothing is set yet", box.world(0, 0, 3), 5);
        Due.is("time(-1)", box.time(-1), false);
        Due.is("time(1000001)", box.time(1000001), false);
        Due.is("time(MIN)", box.time(Integer.MIN_VALUE), false);
        Due.is("nothing happened", box.world(0, 0, 3), 5);
        Due.is("nothing happened", box.count(5), 0);
        Due.is("time(0), as it is", box.time(0), true);
        moveIs(box, 0, 1, 2, 3);
        moveIs(box, 1, 100, -100, 0);
        moveIs(box, 2, 0, 0, 65536);
        moveIs(box, 3, 8, 9, 10);
        Due.is("size", box.world(4, 2, 2), 0);
        box.time(10);
        moveIs(box, 0, 1, 2, 3);
        moveIs(box, 1, 100, -100, 0);
        Due.is("size", box.world(4, 2, 2), 131072);
        box.time(11);
        // 100 / 3 goes down to 33, -100 / 3 to -34, 1 / 3 to 0.
        moveIs(box, 1, 133, -134, 0);
        box.time(12);
        moveIs(box, 1, 166, -167, 0);
        box.time(19);
        moveIs(box, 0, 1, 2, 3);
        moveIs(box, 1, 200, -200, 1);
        box.time(20);
        moveIs(box, 0, 101, 102, 103);
        box.time(50);
        Due.is("turned", box.world(4, 0, 1), -65536);
        box.time(125);
        // f = 16384, f * f = 4096, times 163840: 10240.
        moveIs(box, 2, 10240, -10240, 55296);
        box.time(133);
        // f = 21626, MUL(f, f) = 7136, times 153356: 16698.
        moveIs(box, 2, 16698, -16698, 48838);
        box.time(150);
        moveIs(box, 2, 32768, -32768, 32768);
        box.time(1000000);
        moveIs(box, 2, 65536, -65536, 0);
        Due.is("count(5)", box.count(5), 1000000);
        box.set(2, 0, 1, 1, 1);
        moveIs(box, 2, 1, 1, 1);
        box.time(1000000);
        moveIs(box, 2, 65536, -65536, 0);
    }

    private static void mostKeys() {
        StringBuilder times = new StringBuilder();
        StringBuilder values = new StringBuilder();
        for (int i = 0; i < 32; i++) {
            times.append(i == 0 ? "" : ",").append(10 * i);
            values.append(i == 0 ? "" : ",").append(i).append(",").append(-i).append(",").append(100 * i);
        }
        Fresh box = new Fresh(8, 8);
        Due.is("load", Due.load(box, Texts.scene("", "", "", Texts.node(-1, -1, 0, 0, 0), Texts.repeat(Texts.track(0, 0, 1,
            times.toString(), values.toString()), 2))), 1);
        for (int t = 0; t < 330; t += 5) {
            box.time(t);
            int key = Math.min(31, t / 10);
            boolean between = t % 10 == 5 && key < 31;
            moveIs(box, 0, key, between ? -key - 1 : -key, between ? 100 * key + 50 : 100 * key);
        }
    }

    private static void moveIs(Fresh box, int node, int x, int y, int z) {
        Due.is("x of " + node + " at " + box.count(5), box.world(node, 0, 3), x);
        Due.is("y of " + node + " at " + box.count(5), box.world(node, 1, 3), y);
        Due.is("z of " + node + " at " + box.count(5), box.world(node, 2, 3), z);
    }

    private static Fresh redSquare() {
        Fresh box = new Fresh(16, 16);
        Due.is("load", Due.load(box, Texts.redSquare()), 1);
        return box;
    }

    private static void hide() {
        Fresh box = new Fresh(16, 16);
        Due.load(box, Texts.scene("", Texts.material(255, 0, 0, 255, -1, 0), Texts.square(0, 65536),
            Texts.node(-1, -1, 0, 0, 262144) + "," + Texts.node(0, -1, 0, 0, 0) + "," + Texts.node(1, 0, 0, 0, 0), ""));
        Due.is("seen", box.pick(8, 7), 2);
        Due.is("hide", box.hide(0, true), true);
        Due.is("one above it is hidden", box.pick(8, 7), -1);
        Due.is("it is where it was", box.world(2, 2, 3), 262144);
        box.hide(0, false);
        Due.is("seen", box.pick(8, 7), 2);
        box.hide(1, true);
        Due.is("its parent is hidden", box.pick(8, 7), -1);
        box.hang(2, 0);
        Due.is("it hangs elsewhere", box.pick(8, 7), 2);
        box.hide(2, true);
        box.hide(2, true);
        Due.is("it is hidden", box.pick(8, 7), -1);
        box.hide(2, false);
        Due.is("seen", box.pick(8, 7), 2);
        Due.is("no such node", box.hide(3, true), false);
        Due.is("no such node", box.hide(-1, false), false);
    }

    private static void camera() {
        Fresh box = redSquare();
        Due.is("move", box.camera(0, 0, 0, 131072), true);
        Due.drawAll(box);
        Due.is("nearer", box.nearness(8, 7), 32768);
        Due.is("move", box.camera(0, 0, 0, 262144), true);
        Due.is("it is behind", box.pick(8, 7), -1);
        box.camera(0, 0, 0, 0);
        Due.is("turn", box.camera(1, 0, 2048, 0), true);
        Due.is("it looks away", box.pick(8, 7), -1);
        box.camera(0, 0, 0, 524288);
        Due.is("from behind its faces are nothing", box.pick(8, 7), -1);
        box.set(0, 1, 0, 2048, 0);
        Due.is("now they look this way", box.pick(8, 7), 0);
        box = redSquare();
        box.camera(1, 0, 0, 1024);
        box.set(0, 0, 0, 65536, 262144);
        // Turned a quarter about Z, what is below stands to the right.
        Due.is("right", box.pick(15, 7), 0);
        Due.is("left", box.pick(7, 7), -1);
        box = redSquare();
        Due.is("focus", box.camera(2, 16, Integer.MIN_VALUE, Integer.MAX_VALUE), true);
        Due.is("it is half as wide", box.pick(3, 7), -1);
        Due.is("it is half as wide", box.pick(4, 7), 0);
        Due.is("focus", box.camera(2, 8, 0, 0), true);
        Due.is("focus", box.camera(2, 512, 0, 0), true);
        Due.is("focus too small", box.camera(2, 7, 0, 0), false);
        Due.is("focus too great", box.camera(2, 513, 0, 0), false);
        Due.is("no such what", box.camera(3, 8, 8, 8), false);
        Due.is("no such what", box.camera(-1, 8, 8, 8), false);
        int[] most = {4194304, MOST};
        for (int what = 0; what < 2; what++) {
            int m = most[what];
            Due.is("most", box.camera(what, m, -m, m), true);
            Due.is("x", box.camera(what, m + 1, 0, 0), false);
            Due.is("y", box.camera(what, 0, -m - 1, 0), false);
            Due.is("z", box.camera(what, 0, 0, m + 1), false);
        }
    }

    private static int lit(int x, int y, int z, int ambient) {
        Fresh box = redSquare();
        Due.is("light", box.light(x, y, z, ambient), true);
        Due.drawAll(box);
        return box.pixel(8, 8) >> 16;
    }

    private static void light() {
        Due.is("full", lit(0, 0, -65536, 0), 255);
        Due.is("no more than full", lit(0, 0, -65536, 65536), 255);
        Due.is("half", lit(0, 0, -32768, 0), 127);
        Due.is("half and a quarter", lit(0, 0, -32768, 16384), 191);
        Due.is("from behind", lit(0, 0, 65536, 16384), 63);
        Due.is("from aside", lit(65536, 65536, 0, 32768), 127);
        Due.is("none", lit(0, 0, 65536, 0), 0);
        Fresh box = redSquare();
        box.light(0, 0, -32768, 0);
        box.set(0, 2, 65536, 65536, 131072);
        Due.drawAll(box);
        Due.is("a size makes normals longer", box.pixel(8, 8) >> 16, 255);
        int[][] wrong = {{65537, 0, 0, 0}, {0, -65537, 0, 0}, {0, 0, 65537, 0}, {0, 0, 0, -1}, {0, 0, 0, 65537},
            {Integer.MIN_VALUE, 0, 0, 0}};
        for (int[] w : wrong) {
            Due.is("can't be", box.light(w[0], w[1], w[2], w[3]), false);
        }
        Due.drawAll(box);
        Due.is("nothing has changed", box.pixel(8, 8) >> 16, 255);
    }

    private static void background() {
        Fresh box = new Fresh(8, 8);
        Due.is("background", box.background(1, 2, 3), true);
        Due.is("background", box.background(256, 0, 0), false);
        Due.is("background", box.background(0, 256, 0), false);
        Due.is("background", box.background(0, 0, 256), false);
        Due.is("background", box.background(-1, 0, 0), false);
        Due.is("background", box.background(0, -1, 0), false);
        Due.is("background", box.background(0, 0, -1), false);
        Due.drawAll(box);
        Due.is("pixel", box.pixel(7, 7), 65536 + 512 + 3);
        Due.is("nearness", box.nearness(7, 7), 0);
        box.background(255, 0, 255);
        Due.is("the picture stays", box.pixel(7, 7), 65536 + 512 + 3);
        Due.drawAll(box);
        Due.is("the next one has it", box.pixel(7, 7), 0xFF00FF);
    }

    public static void main(String[] args) {
        world();
        bounds();
        set();
        hang();
        time();
        mostKeys();
        hide();
        camera();
        light();
        background();
        Due.close("SceneTest");
    }
}

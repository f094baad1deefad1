/** The sentences of the document's Terms that name a boundary, but for THE TEXT, THE ORDER's pieces and THE FILE. */
public final class TermsTest {
    private static final int FAR = 16777216;
    private static final int MOST = 1048576;

    private static Fresh loaded(int width, int height, String text) {
        Fresh box = new Fresh(width, height);
        Due.is("load of " + text, Due.load(box, text) != Due.ILLEGAL_ARGUMENT, true);
        return box;
    }

    private static Fresh drawn(int width, int height, String text) {
        Fresh box = loaded(width, height, text);
        Due.drawAll(box);
        return box;
    }

    private static String white(String texture, String mesh, String nodes) {
        int number = texture.isEmpty() ? -1 : 0;
        return Texts.scene(texture, Texts.material(255, 255, 255, 255, number, 0), mesh, nodes, "");
    }

    private static String node(int parent, int mesh, String move, String turn, String size) {
        return "{\"parent\":" + parent + ",\"mesh\":" + mesh + ",\"move\":[" + move + "],\"turn\":[" + turn + "],\"size\":["
            + size + "]}";
    }

    private static String mesh(String points, String normals, String faces) {
        int n = points.split(",").length / 3;
        return "{\"material\":0,\"points\":[" + points + "],\"normals\":[" + Texts.repeat(normals, n) + "],\"places\":["
            + Texts.repeat("0,0", n) + "],\"faces\":[" + faces + "]}";
    }

    // ---- NUMBERS

    /** "SIN(k), k in 4,096ths of a turn, modulo 4,096 (0 .. 4,095, also of one below 0)". */
    private static void sines() {
        // SIN(1) is 2146435072 / 20963332 = 102.4, SIN(1023) 1099510579200 / 16777220 = 65535.9.
        int[][] due = {{0, 0}, {1, 102}, {512, 46260}, {1023, 65535}, {1024, 65536}, {1025, 65535}, {1536, 46260}, {2047, 102},
            {2048, 0}, {2049, -102}, {3071, -65535}, {3072, -65536}, {3073, -65535}, {4095, -102}, {4096, 0}, {4097, 102},
            {-1, -102}, {-1024, -65536}, {-2047, -102}, {-2048, 0}, {-2049, 102}, {-3072, 65536}, {-4095, 102}, {-4096, 0},
            {-4097, -102}, {MOST, 0}, {-MOST, 0}, {MOST - 1, -102}, {1 - MOST, 102}, {MOST - 1024, -65536}};
        Fresh box = loaded(8, 8, Texts.scene("", "", "", Texts.nodes(1), ""));
        for (int[] d : due) {
            box.set(0, 1, d[0], 0, 0);
            Due.is("SIN(" + d[0] + ") about x", box.world(0, 2, 1), d[1]);
            Due.is("-SIN(" + d[0] + ") about x", box.world(0, 1, 2), -d[1]);
            box.set(0, 1, 0, d[0], 0);
            Due.is("SIN(" + d[0] + ") about y", box.world(0, 0, 2), d[1]);
            Due.is("-SIN(" + d[0] + ") about y", box.world(0, 2, 0), -d[1]);
            box.set(0, 1, 0, 0, d[0]);
            Due.is("SIN(" + d[0] + ") about z", box.world(0, 1, 0), d[1]);
            Due.is("-SIN(" + d[0] + ") about z", box.world(0, 0, 1), -d[1]);
            if (d[0] - 1024 >= -MOST) {
                box.set(0, 1, d[0] - 1024, 0, 0);
                Due.is("COS(" + (d[0] - 1024) + ")", box.world(0, 1, 1), d[1]);
            }
        }
    }

    /** The same for a whole turn, by the document's own words. */
    private static void everySine() {
        Fresh box = null;
        for (int k = 0; k < 4096; k++) {
            if (k % 200 == 0) {
                box = loaded(8, 8, Texts.scene("", "", "", Texts.nodes(1), ""));
            }
            long half = k % 2048;
            long p = half * (2048 - half);
            long due = Math.floorDiv(1048576 * p, 20971520 - 4 * p) * (k < 2048 ? 1 : -1);
            box.set(0, 1, 0, 0, k);
            Due.is("SIN(" + k + ")", box.world(0, 1, 0), due);
        }
    }

    /** "DIV(a, b): the greatest whole number that is not above a / b": also of one below 0. */
    private static void downwards() {
        Fresh box = loaded(8, 8, Texts.scene("", "", "", Texts.nodes(1), ""));
        // SIN(1) is 102: 102 * 642 = 65484 is below 65536, 102 * 643 = 65586 is not.
        int[][] small = {{642, 0, -1}, {643, 1, -2}, {-642, -1, 0}, {-643, -2, 1}, {1, 0, -1}, {-1, -1, 0}, {0, 0, 0}};
        box.set(0, 1, 0, 0, 1);
        for (int[] d : small) {
            box.set(0, 2, d[0], d[0], 0);
            Due.is("MUL(102, " + d[0] + ")", box.world(0, 1, 0), d[1]);
            Due.is("MUL(-102, " + d[0] + ")", box.world(0, 0, 1), d[2]);
        }
    }

    /** "BOUND(v) is the nearest of -16777216 .. 16777216", of a matrix: just there, and beyond. */
    private static void boundOfMatrices() {
        Fresh box = loaded(8, 8, Texts.scene("", "", "", Texts.nodes(5), ""));
        for (int i = 0; i < 5; i++) {
            box.set(i, 0, 4194304, -4194304, 4194303);
        }
        int[][] moves = {{4194304, -4194304, 4194303}, {8388608, -8388608, 8388606}, {12582912, -12582912, 12582909},
            {FAR, -FAR, 16777212}, {FAR, -FAR, FAR}};
        for (int i = 0; i < 5; i++) {
            for (int row = 0; row < 3; row++) {
                Due.is("move of " + i, box.world(i, row, 3), moves[i][row]);
            }
        }
        box.set(0, 2, MOST, -MOST, 65536);
        box.set(1, 2, MOST, MOST, 65536);
        Due.is("just there", box.world(1, 0, 0), FAR);
        Due.is("just there", box.world(1, 1, 1), -FAR);
        box.set(1, 2, MOST - 1, 1 - MOST, 65536);
        Due.is("not yet there", box.world(1, 0, 0), FAR - 16);
        Due.is("not yet there", box.world(1, 1, 1), FAR - 16);
        box.set(2, 2, 65537, 65537, 65536);
        box.set(1, 2, MOST, MOST, 65536);
        Due.is("beyond", box.world(2, 0, 0), FAR);
        Due.is("beyond", box.world(2, 1, 1), -FAR);
    }

    /** The same of a point: 1048576 through a size of 256 is 268435456, but BOUND is as far as the node is away. */
    private static void boundOfPoints() {
        String far = "4194304";
        String nodes = node(-1, -1, "0,0," + far, "0,0,0", MOST + "," + MOST + ",65536") + ","
            + node(0, -1, "0,0," + far, "0,0,0", MOST + "," + MOST + ",65536") + "," + Texts.node(1, -1, 0, 0, 4194304) + ","
            + Texts.node(2, 0, 0, 0, 4194304);
        String text = white("", mesh("0,0,0,1048576,0,0,1048576,1048576,0,0,1048576,0", "0,0,-65536", "0,1,2,0,2,3"), nodes);
        Fresh box = loaded(48, 48, text);
        box.camera(2, 8, 0, 0);
        Due.drawAll(box);
        // x and z are 16777216: 8 pixels from the middle; r is 4294967296 / 16777216.
        for (int x = 20; x < 36; x++) {
            boolean in = x >= 24 && x < 32;
            Due.is("across " + x, box.nearness(x, 24), in ? 256 : 0);
            Due.is("down " + x, box.nearness(24, x), in ? 256 : 0);
        }
        for (int i = 0; i < 4; i++) {
            box.set(i, 0, 0, 0, i == 3 ? 4194304 : 0);
        }
        box.set(0, 2, -MOST, -MOST, 65536);
        box.set(1, 2, MOST, MOST, 65536);
        box.camera(2, 8, 0, 0);
        // x is -16777216 at z 4194304: 4 * 8 pixels to the left and up.
        Due.is("the least x", box.pick(0, 23), 3);
        Due.is("the least x", box.pick(24, 23), -1);
        Due.is("the least y", box.pick(23, 0), 3);
    }

    /** The same of a direction: a normal of 512 is 256, so that a light of 128 / 65536 is a half. */
    private static void boundOfDirections() {
        String sixteen = MOST + "," + MOST + "," + MOST;
        String nodes = node(-1, -1, "0,0,262144", "0,0,0", sixteen) + "," + node(0, -1, "0,0,0", "0,0,0", sixteen) + ","
            + node(1, 0, "0,0,0", "512,0,0", "65536," + MOST + "," + MOST);
        String points = "-200,-100,100,200,-100,100,200,100,-100,-200,100,-100";
        Fresh box = loaded(16, 16, white("", mesh(points, "0,65536,65536", "0,1,2,0,2,3"), nodes));
        Due.is("world(2, 1, 2)", box.world(2, 1, 2), -FAR);
        Due.is("world(2, 2, 1)", box.world(2, 2, 1), FAR);
        box.light(0, 0, 128, 0);
        Due.drawAll(box);
        Due.is("nearness", box.nearness(8, 8), 16384);
        Due.is("a half", box.pixel(8, 8), 0x7F7F7F);
        box.light(0, 0, 256, 0);
        Due.drawAll(box);
        Due.is("a whole", box.pixel(8, 8), 0xFFFFFF);
    }

    // ---- TIME

    /** "before its first key, and at its last one or behind it, that key's numbers; else, .. (s <= t < e)". */
    private static void aroundKeys() {
        String keys = "100,-100,0,200,-200,1";
        String tracks = Texts.track(0, 0, 0, "10,13", keys) + "," + Texts.track(1, 0, 1, "10,13", keys) + ","
            + Texts.track(2, 0, 2, "10,13", keys) + "," + Texts.track(3, 0, 2, "10", "5,6,7");
        Fresh box = loaded(8, 8, Texts.scene("", "", "", Texts.repeat(Texts.node(-1, -1, 1, 1, 1), 4), tracks));
        // Smooth: f 21845, g MUL(7281, 152918) = 16989 and f 43690, g MUL(29126, 109228) = 48543.
        int[][] due = {{0, 100, -100, 0, 100, -100, 0, 100, -100, 0}, {9, 100, -100, 0, 100, -100, 0, 100, -100, 0},
            {10, 100, -100, 0, 100, -100, 0, 100, -100, 0}, {11, 100, -100, 0, 133, -134, 0, 125, -126, 0},
            {12, 100, -100, 0, 166, -167, 0, 174, -175, 0}, {13, 200, -200, 1, 200, -200, 1, 200, -200, 1},
            {14, 200, -200, 1, 200, -200, 1, 200, -200, 1}, {1000000, 200, -200, 1, 200, -200, 1, 200, -200, 1}};
        for (int[] d : due) {
            Due.is("time(" + d[0] + ")", box.time(d[0]), true);
            Due.is("TIME", box.count(5), d[0]);
            for (int k = 0; k < 9; k++) {
                Due.is("node " + k / 3 + " at " + d[0], box.world(k / 3, k % 3, 3), d[1 + k]);
            }
            for (int k = 0; k < 3; k++) {
                Due.is("of one key, at " + d[0], box.world(3, k, 3), 5 + k);
            }
        }
    }

    /** The farthest keys, the farthest numbers: nothing is lost on the way. */
    private static void farKeys() {
        String move = "-4194304,4194304,-4194304,4194304,-4194304,4194304";
        String tracks = Texts.track(0, 0, 1, "0,1000000", move) + "," + Texts.track(1, 0, 2, "0,1000000", move) + ","
            + Texts.track(2, 2, 1, "999999,1000000", "1048576,-1048576,0,-1048576,1048576,0");
        Fresh box = loaded(8, 8, Texts.scene("", "", "", Texts.repeat(Texts.node(-1, -1, 1, 1, 1), 3), tracks));
        box.time(999999);
        // 8388608 * 999999 / 1000000 = 8388599.6
        Due.is("straight", box.world(0, 0, 3), -4194304 + 8388599);
        Due.is("straight", box.world(0, 1, 3), 4194304 - 8388600);
        // f = 65535, MUL(f, f) = 65534, times 65538: 65535; MUL(8388608, 65535) = 8388480
        Due.is("smooth", box.world(1, 0, 3), -4194304 + 8388480);
        Due.is("smooth", box.world(1, 1, 3), 4194304 - 8388480);
        Due.is("size", box.world(2, 0, 0), MOST);
        box.time(1000000);
        Due.is("straight", box.world(0, 0, 3), 4194304);
        Due.is("smooth", box.world(1, 0, 3), 4194304);
        Due.is("size", box.world(2, 0, 0), -MOST);
        box.time(0);
        Due.is("straight", box.world(0, 0, 3), -4194304);
        Due.is("size", box.world(2, 1, 1), -MOST);
    }

    /** "With each time(t), also with the one that it is, each track, in order, sets what it is for". */
    private static void tracksInOrder() {
        String tracks = Texts.track(0, 0, 0, "0", "1,1,1") + "," + Texts.track(0, 0, 0, "5", "2,2,2") + ","
            + Texts.track(0, 2, 0, "0", "7,7,7");
        Fresh box = loaded(8, 8, Texts.scene("", "", "", Texts.node(-1, -1, 9, 9, 9), tracks));
        Due.is("none has set anything", box.world(0, 0, 3), 9);
        box.time(0);
        Due.is("the later track", box.world(0, 0, 3), 2);
        Due.is("another what", box.world(0, 0, 0), 7);
        box.set(0, 0, 3, 3, 3);
        box.set(0, 1, 1024, 0, 0);
        Due.is("time(1000001)", box.time(1000001), false);
        Due.is("it is left alone", box.world(0, 0, 3), 3);
        box.time(0);
        Due.is("the same time again", box.world(0, 0, 3), 2);
        Due.is("no track is for its turn", box.world(0, 2, 1), 7);
    }

    // ---- light, cuts, pieces

    /** "the least of 65536 and AMBIENT + (d if that is above 0)". */
    private static void lightBounds() {
        int[][] due = {{-65536, 0, 255}, {-65535, 0, 254}, {-65536, 1, 255}, {-65536, 65536, 255}, {-32768, 32768, 255},
            {-32768, 32767, 254}, {0, 0, 0}, {0, 257, 0}, {0, 258, 1}, {1, 32768, 127}, {65536, 65536, 255}, {65536, 32768, 127},
            {-1, 0, 0}, {-257, 0, 0}, {-258, 0, 1}, {65536, 0, 0}};
        for (int[] d : due) {
            Fresh box = loaded(8, 8, Texts.redSquare());
            Due.is("light", box.light(0, 0, d[0], d[1]), true);
            Due.drawAll(box);
            Due.is("toward " + d[0] + ", ambient " + d[1], box.pixel(4, 4), d[2] * 65536);
        }
    }

    /** "one with a number not below 0 stays": z 4096 is just far enough, and what is nearer is cut off there. */
    private static void nearSide() {
        for (int z = 4094; z <= 4098; z++) {
            Fresh box = drawn(8, 8, white("", Texts.square(0, 65536), Texts.node(-1, 0, 0, 0, z)));
            int near = z < 4096 ? 0 : z == 4096 ? 1048576 : (int) (4294967296L / z);
            Due.is("nearness at z " + z, box.nearness(4, 4), near);
            Due.is("pick at z " + z, box.pick(4, 4), near == 0 ? -1 : 0);
        }
        // From z 0 to z 8192, x going with z: what is left begins in the middle of the picture, at 4096.
        String slope = mesh("-8192,-1024,8192,0,-1024,0,0,1024,0,-8192,1024,8192", "0,0,-65536", "0,1,2,0,2,3");
        Fresh box = loaded(16, 16, white("", slope, Texts.node(-1, 0, 4096, 0, 0)));
        box.camera(2, 16, 0, 0);
        Due.is("left of the middle", box.pick(7, 7), 0);
        Due.is("right of it", box.pick(8, 7), -1);
    }

    /** "With fewer than 3 it is nothing": wholly beyond one side each, or touching it. */
    private static void beyondSides() {
        int[][] away = {{-262144, 0, 262144}, {262144, 0, 262144}, {0, -262144, 262144}, {0, 262144, 262144}, {0, 0, -262144}};
        for (int[] a : away) {
            Fresh box = drawn(16, 16, white("", Texts.square(0, 65536), Texts.node(-1, 0, a[0], a[1], a[2])));
            for (int i = 0; i < 256; i += 5) {
                Due.is("beyond", box.pixel(i % 16, i / 16), 0);
                Due.is("beyond", box.nearness(i % 16, i / 16), 0);
            }
        }
        // On the picture's four edges: one column or row is left of it, or, where its edge does not cover, none.
        int[][] just = {{-124928, 0, 0, 8}, {126976, 0, 15, 8}, {0, -124928, 8, 0}, {0, 126976, 8, 15},
            {-126976, 0, -1, 8}, {0, -126976, 8, -1}};
        for (int[] j : just) {
            Fresh box = loaded(16, 16, white("", Texts.square(0, 65536), Texts.node(-1, 0, j[0], j[1], 262144)));
            for (int i = 0; i < 16; i++) {
                boolean across = j[0] != 0;
                Due.is("an edge", box.pick(across ? i : 8, across ? 8 : i), i == (across ? j[2] : j[3]) ? 0 : -1);
            }
        }
    }

    /** "It is COVERED if for each of the edges .. E is above 0, or 0 and Yb < Ya, or 0 and Yb = Ya and Xb > Xa". */
    private static void edges() {
        // A triangle whose three edges run through pixels' middles: 3.5 3.5, 9.5 3.5, 3.5 9.5 (and 9.5 9.5 turned over).
        String lower = "-36864,-36864,0,12288,-36864,0,-36864,12288,0";
        String upper = "12288,12288,0,-36864,12288,0,12288,-36864,0";
        String[] orders = {"0,1,2", "1,2,0", "2,0,1"};
        for (String order : orders) {
            Fresh box = drawn(16, 16, white("", mesh(lower, "0,0,-65536", order), Texts.node(-1, 0, 0, 0, 262144)));
            Fresh other = drawn(16, 16, white("", mesh(upper, "0,0,-65536", order), Texts.node(-1, 0, 0, 0, 262144)));
            for (int i = 0; i < 256; i++) {
                int x = i % 16;
                int y = i / 16;
                // The upper and left edges cover, the slope does not: that one is the other triangle's.
                Due.is("lower " + i, box.nearness(x, y) > 0, x >= 3 && y >= 3 && x + y < 12);
                Due.is("upper " + i, other.nearness(x, y) > 0, x < 9 && y < 9 && x + y >= 12);
            }
        }
    }

    /** "With AREA 0 it is nothing; below 0, too, but with BOTH its second and third corner change places." */
    private static void areas() {
        String[] flat = {"0,0,0", "0,0,1", "0,1,0", "1,0,0", "0,1,4", "4,1,0"};
        String points = "-65536,-65536,0,65536,-65536,0,65536,65536,0,-65536,65536,0,0,-65536,0";
        for (int both = 0; both < 2; both++) {
            for (String faces : flat) {
                facesAre(both, points, faces, -1);
            }
            facesAre(both, points, "0,1,2", 0);
            facesAre(both, points, "0,2,1", both == 1 ? 0 : -1);
            facesAre(both, points, "2,1,0", both == 1 ? 0 : -1);
        }
    }

    private static void facesAre(int both, String points, String faces, int node) {
        Fresh box = drawn(16, 16, Texts.scene("", Texts.material(255, 255, 255, 255, -1, both),
            mesh(points, "0,0,-65536", faces), Texts.node(-1, 0, 0, 0, 262144), ""));
        Due.is("faces " + faces + " with both " + both, box.pick(10, 5), node);
        Due.is("faces " + faces + " with both " + both, box.nearness(10, 5), node < 0 ? 0 : 16384);
    }

    /** All triangles between nine points a 16th of a pixel apart, round a pixel's middle: E and AREA are 0, 1, -1 and 2. */
    private static void tinyPieces() {
        StringBuilder points = new StringBuilder();
        for (int i = 0; i < 9; i++) {
            points.append(i == 0 ? "" : ",").append(4096 + 512 * (i % 3 - 1)).append(",").append(4096 + 512 * (i / 3 - 1))
                .append(",0");
        }
        for (int i = 0; i < 2 * 729; i++) {
            int both = i % 2;
            int[] c = {i / 2 % 9, i / 18 % 9, i / 162};
            Fresh box = loaded(16, 16, Texts.scene("", Texts.material(9, 9, 9, 255, -1, both),
                mesh(points.toString(), "0,0,-65536", c[0] + "," + c[1] + "," + c[2]), Texts.node(-1, 0, 0, 0, 262144), ""));
            boolean in = covers(c[0], c[1], c[2]) || both == 1 && covers(c[0], c[2], c[1]);
            String name = "face " + c[0] + " " + c[1] + " " + c[2] + " with both " + both;
            Due.is(name, box.pick(8, 8), in ? 0 : -1);
            Due.drawAll(box);
            Due.is(name, box.nearness(8, 8), in ? 16384 : 0);
            Due.is(name, box.nearness(7, 8) + box.nearness(8, 7), 0);
        }
    }

    /** The pixel's middle is point 4: 0 0 of -1 .. 1. */
    private static boolean covers(int a, int b, int c) {
        int area = (b % 3 - a % 3) * (c / 3 - a / 3) - (c % 3 - a % 3) * (b / 3 - a / 3);
        return area > 0 && within(b, c) && within(c, a) && within(a, b);
    }

    private static boolean within(int a, int b) {
        int e = (b % 3 - a % 3) * (1 - a / 3) - (b / 3 - a / 3) * (1 - a % 3);
        return e > 0 || e == 0 && (b / 3 < a / 3 || b / 3 == a / 3 && b % 3 > a % 3);
    }

    /** A corner that is too near by 1, two that are far enough by 1: half way between them two new ones come. */
    private static void nearByOne() {
        String[] orders = {"0,1,2", "1,2,0", "2,0,1"};
        for (String order : orders) {
            String mesh = mesh("-4096,-4096,4097,4096,-4096,4097,0,4096,4095", "0,0,-65536", order);
            Fresh box = loaded(16, 16, white("", mesh, Texts.node(-1, 0, 0, 0, 0)));
            box.camera(2, 8, 0, 0);
            Due.is("beside one of them", box.pick(5, 7), 0);
            Due.is("beside the other one", box.pick(10, 7), 0);
            Due.is("between them", box.pick(8, 7), 0);
            Due.is("below them", box.pick(8, 8), -1);
            box.set(0, 0, 0, 0, 1);
            Due.is("just far enough", box.pick(8, 8), 0);
            box.set(0, 0, 0, 0, -1);
            Due.is("all of it is too near, but an edge", box.pick(8, 7), -1);
        }
    }

    /** 128 points and 128 faces: the last ones are as good as the first. */
    private static void manyPoints() {
        String square = "-65536,-65536,0,65536,-65536,0,65536,65536,0,-65536,65536,0";
        String mesh = "{\"material\":0,\"points\":[" + Texts.repeat("0,0,0", 124) + "," + square + "],\"normals\":["
            + Texts.repeat("0,0,0", 124) + "," + Texts.repeat("0,0,-49152", 4) + "],\"places\":[" + Texts.repeat("0,0", 124)
            + ",0,0,65536,0,65536,65536,0,65536],\"faces\":[" + Texts.repeat("0,1,2", 126) + ",124,125,126,124,126,127]}";
        String texture = Texts.texture(2, 0, 0, "255,0,0,0,255,0,0,0,255,255,255,255");
        Fresh box = loaded(16, 16, white(texture, mesh, Texts.node(-1, 0, 0, 0, 262144)));
        box.light(0, 0, -65536, 0);
        Due.drawAll(box);
        int[] quarter = {0xBF0000, 0x00BF00, 0x0000BF, 0xBFBFBF};
        for (int i = 0; i < 256; i++) {
            Due.is("pixel " + i, box.pixel(i % 16, i / 16), quarter[i / 128 * 2 + i % 16 / 8]);
        }
        Due.is("pick", box.pick(10, 5), 0);
        Due.is("the face before the last one", box.picked(), 126);
        Due.is("pick", box.pick(5, 10), 0);
        Due.is("the last face", box.picked(), 127);
    }

    /** VIEW undoes the camera's turn and move: what is turned as it is, and straight before it, looks as ever. */
    private static void viewOfTurns() {
        for (int i = 0; i < 64; i++) {
            Fresh box = loaded(16, 16, white("", Texts.square(0, 32768), Texts.node(-1, 0, 0, 0, 0)));
            int[] turn = {i % 4 * 1024, i / 4 % 4 * 1024, i / 16 * 1024};
            box.set(0, 1, turn[0], turn[1], turn[2]);
            Due.is("turn", box.camera(1, turn[0], turn[1], turn[2]), true);
            Due.is("move", box.camera(0, 5000, -70000, 900000), true);
            box.set(0, 0, 5000 + 4 * box.world(0, 0, 2), -70000 + 4 * box.world(0, 1, 2), 900000 + 4 * box.world(0, 2, 2));
            Due.is("upper right", box.pick(11, 4), 0);
            Due.is("upper right", box.picked(), 0);
            Due.is("lower left", box.pick(4, 11), 0);
            Due.is("lower left", box.picked(), 1);
            Due.is("beside it", box.pick(12, 8), -1);
            Due.is("above it", box.pick(8, 3), -1);
            box.begin();
            box.tile(0);
            Due.is("nearness", box.nearness(7, 7), 16384);
        }
    }

    /** d is the sum over three axes, of the normal as the node turns it. */
    private static void lightOfAxes() {
        String[] normals = {"-32768,0,0", "0,-32768,0", "0,0,-32768", "-16384,-16384,0", "-16384,0,-16384", "32768,-32768,-32768"};
        int[][] due = {{127, 0, 0}, {0, 127, 0}, {0, 0, 127}, {63, 63, 0}, {63, 0, 63}, {0, 127, 127}};
        for (int n = 0; n < normals.length; n++) {
            String mesh = mesh("-65536,-65536,0,65536,-65536,0,65536,65536,0,-65536,65536,0", normals[n], "0,1,2,0,2,3");
            for (int axis = 0; axis < 3; axis++) {
                Fresh box = loaded(16, 16, white("", mesh, Texts.node(-1, 0, 0, 0, 262144)));
                box.light(axis == 0 ? -65536 : 0, axis == 1 ? -65536 : 0, axis == 2 ? -65536 : 0, 0);
                Due.drawAll(box);
                Due.is("normal " + normals[n] + ", light along " + axis, box.pixel(8, 8) & 255, due[n][axis]);
            }
            Fresh box = loaded(16, 16, white("", mesh, Texts.node(-1, 0, 0, 0, 262144)));
            box.light(-65536, -65536, -65536, 0);
            Due.drawAll(box);
            Due.is("normal " + normals[n] + ", light along all", box.pixel(8, 8) & 255, 127);
        }
        // A quarter about z turns x into y.
        String mesh = mesh("-65536,-65536,0,65536,-65536,0,65536,65536,0,-65536,65536,0", "-32768,0,0", "0,1,2,0,2,3");
        Fresh box = loaded(16, 16, white("", mesh, Texts.node(-1, 0, 0, 0, 262144)));
        box.set(0, 1, 0, 0, 1024);
        box.light(0, -65536, 0, 0);
        Due.drawAll(box);
        Due.is("a normal is turned with its node", box.pixel(8, 8) & 255, 127);
    }

    // ---- textures

    /** "WRAP: a number beyond 0 .. s - 1", in columns by u and rows by v; places from -2 to 2. */
    private static void wraps() {
        StringBuilder columns = new StringBuilder();
        StringBuilder rows = new StringBuilder();
        for (int i = 0; i < 16; i++) {
            columns.append(i == 0 ? "" : ",").append(i % 4 * 10 + 10).append(",0,0");
            rows.append(i == 0 ? "" : ",").append(i / 4 * 10 + 10).append(",0,0");
        }
        int[][] due = {{1, 2, 3, 4, 1, 2, 3, 4, 1, 2, 3, 4, 1, 2, 3, 4}, {1, 1, 1, 1, 1, 1, 1, 1, 1, 2, 3, 4, 4, 4, 4, 4},
            {1, 2, 3, 4, 4, 3, 2, 1, 1, 2, 3, 4, 4, 3, 2, 1}};
        String square = Texts.square(0, 65536).replace("\"places\":[0,0,65536,0,65536,65536,0,65536]",
            "\"places\":[-131072,-131072,131072,-131072,131072,131072,-131072,131072]");
        for (int wrap = 0; wrap < 3; wrap++) {
            String node = Texts.node(-1, 0, 0, 0, 262144);
            Fresh byU = drawn(16, 16, white(Texts.texture(4, wrap, 0, columns.toString()), square, node));
            Fresh byV = drawn(16, 16, white(Texts.texture(4, wrap, 0, rows.toString()), square, node));
            for (int i = 0; i < 256; i++) {
                Due.is("wrap " + wrap + " by u", byU.pixel(i % 16, i / 16), 10 * due[wrap][i % 16] * 65536);
                Due.is("wrap " + wrap + " by v", byV.pixel(i % 16, i / 16), 10 * due[wrap][i / 16] * 65536);
            }
        }
    }

    /** SOFT, at the texture's four edges: half a texel beyond them the next one is as WRAP says. */
    private static void softEdges() {
        int[] texel = {10, 60, 110, 210};
        // The texels beyond 0 1 on the left (-1) and on the right (2), for each wrap.
        int[][] beyond = {{1, 0}, {0, 1}, {0, 1}};
        for (int wrap = 0; wrap < 3; wrap++) {
            Fresh box = drawn(8, 8, white(Texts.texture(2, wrap, 1, "10,0,0,60,0,0,110,0,0,210,0,0"),
                Texts.square(0, 32768), Texts.node(-1, 0, 0, 0, 262144)));
            for (int i = 0; i < 64; i++) {
                int x = i % 8;
                int y = i / 8;
                // a is 16384 * x + 8192 - 32768: in pixels 0 and 1 texels -1, 0, up to 5 texels 0, 1, then 1, 2.
                int column = x < 2 ? beyond[wrap][0] : x < 6 ? 0 : 1;
                int next = x < 2 ? 0 : x < 6 ? 1 : beyond[wrap][1];
                int row = y < 2 ? beyond[wrap][0] : y < 6 ? 0 : 1;
                int below = y < 2 ? 0 : y < 6 ? 1 : beyond[wrap][1];
                int g = (x + 2) % 4 * 64 + 32;
                int k = (y + 2) % 4 * 64 + 32;
                int due = texel[2 * row + column] * (256 - g) * (256 - k) + texel[2 * row + next] * g * (256 - k)
                    + texel[2 * below + column] * (256 - g) * k + texel[2 * below + next] * g * k >> 16;
                Due.is("soft, wrap " + wrap + " at " + x + " " + y, box.pixel(x, y) >> 16, due);
            }
        }
    }

    /** A texture of one texel is that one everywhere; "the last has side 1". */
    private static void oneTexel() {
        for (int wrap = 0; wrap < 3; wrap++) {
            for (int soft = 0; soft < 2; soft++) {
                Fresh box = drawn(8, 8, white(Texts.texture(1, wrap, soft, "255,7,0"), Texts.square(0, 65536).replace(
                    "[0,0,65536,0,65536,65536,0,65536]", "[-131072,-131072,131072,-131072,131072,131072,-131072,131072]"),
                    Texts.node(-1, 0, 0, 0, 262144)));
                for (int i = 0; i < 64; i++) {
                    Due.is("one texel", box.pixel(i % 8, i / 8), 0xFF0700);
                }
            }
        }
    }

    /** A side of 32 has six levels: each texel is the mean of four, rounded down; a square of one pixel has the last. */
    private static void lastLevel() {
        StringBuilder texels = new StringBuilder();
        for (int i = 0; i < 1024; i++) {
            boolean bright = (i % 32 == 16 || i % 32 == 17) && (i / 32 == 16 || i / 32 == 17);
            texels.append(i == 0 ? "" : ",").append(bright ? "255,3,3" : "3,3,3");
        }
        // Red: 255, then (255 + 9) / 4 = 66, (66 + 9) / 4 = 18, 6 (27 / 4), 3 (15 / 4).
        int[] due = {255, 255, 66, 18, 6, 3};
        for (int level = 0; level <= 5; level++) {
            int move = level == 5 ? 4096 : 0;
            Fresh box = drawn(48, 48, white(Texts.texture(32, 1, 0, texels.toString()),
                Texts.square(0, 131072 >> level), Texts.node(-1, 0, move, move, 262144)));
            // 32 pixels wide at level 0; right and below of the middle begins the texel with the bright ones.
            Due.is("level " + level, box.pixel(24, 24), due[level] * 65536 + 3 * 256 + 3);
        }
    }

    /** "each texel of it DIV(the four of the level before, summed, 4)": each of the four counts. */
    private static void meansOfFour() {
        for (int k = 0; k < 4; k++) {
            StringBuilder texels = new StringBuilder();
            for (int i = 0; i < 4; i++) {
                texels.append(i == 0 ? "" : ",").append(i == k ? "255,8,3" : "0,0,0");
            }
            Fresh box = drawn(16, 16, white(Texts.texture(2, 0, 0, texels.toString()), Texts.square(0, 4096),
                Texts.node(-1, 0, 4096, 4096, 262144)));
            Due.is("the mean with " + k, box.pixel(8, 8), 63 * 65536 + 2 * 256);
        }
    }

    /** "the least L for which |..| * side * side <= AREA * 16777216 * 4^L": just as much, one less, one more. */
    private static void levelBounds() {
        String dark = "0,0,0,255,255,255,0,0,0,255,255,255";
        String light = "255,255,255,0,0,0,255,255,255,0,0,0";
        String texture = Texts.texture(4, 0, 0, dark + "," + light + "," + dark + "," + light);
        String[] fit = {"0,0,65536,0,0,65536", "0,0,65536,1,1,65536", "0,0,0,65536,65536,0", "9,9,9,9,9,9", "0,0,0,0,65536,0"};
        String[] more = {"0,0,65536,-1,1,65536", "0,0,65536,1,-1,65536", "0,0,-1,65536,65536,1", "-131072,0,131072,0,0,131072"};
        for (int i = 0; i < fit.length + more.length; i++) {
            String places = i < fit.length ? fit[i] : more[i - fit.length];
            // A triangle of 4 by 4 pixels has AREA 64 * 64: 2^32 * 4 * 4 is just as much as 4096 * 2^24.
            String mesh = "{\"material\":0,\"points\":[-16384,-16384,0,16384,-16384,0,-16384,16384,0],\"normals\":["
                + Texts.repeat("0,0,-65536", 3) + "],\"places\":[" + places + "],\"faces\":[0,1,2]}";
            Fresh box = drawn(16, 16, white(texture, mesh, Texts.node(-1, 0, 0, 0, 262144)));
            int colour = box.pixel(6, 6);
            Due.is("it is there", box.nearness(6, 6), 16384);
            Due.is("level 0 of " + places, colour == 0 || colour == 0xFFFFFF, i < fit.length);
            Due.is("level 1 of " + places, colour == 0x7F7F7F, i >= fit.length);
        }
    }

    /** All corners at the same place: it is just that one at every pixel. */
    private static void exactPlaces() {
        int[] at = {-131072, -131071, -65537, -65536, -65535, -49153, -16385, -16384, -16383, -1, 0, 1, 8191, 8192, 8193, 16383,
            16384, 32767, 32768, 49152, 65535, 65536, 65537, 131071, 131072};
        int[] texel = {10, 60, 110, 210};
        for (int n = 0; n < 6 * at.length; n++) {
            int wrap = n % 3;
            int soft = n / 3 % 2;
            int u = at[n / 6];
            int v = at[(n / 6 * 7 + 3) % at.length];
            String places = "\"places\":[" + Texts.repeat(u + "," + v, 4) + "]";
            Fresh box = drawn(8, 8, white(Texts.texture(2, wrap, soft, "10,0,0,60,0,0,110,0,0,210,0,0"),
                Texts.square(0, 65536).replace("\"places\":[0,0,65536,0,65536,65536,0,65536]", places),
                Texts.node(-1, 0, 0, 0, 262144)));
            int a = 2 * u - 32768 * soft;
            int b = 2 * v - 32768 * soft;
            int i = Math.floorDiv(a, 65536);
            int j = Math.floorDiv(b, 65536);
            int g = soft * Math.floorDiv(a - 65536 * i, 256);
            int k = soft * Math.floorDiv(b - 65536 * j, 256);
            int due = texel[2 * round(j, wrap) + round(i, wrap)] * (256 - g) * (256 - k)
                + texel[2 * round(j, wrap) + round(i + 1, wrap)] * g * (256 - k)
                + texel[2 * round(j + 1, wrap) + round(i, wrap)] * (256 - g) * k
                + texel[2 * round(j + 1, wrap) + round(i + 1, wrap)] * g * k >> 16;
            Due.is("texel at " + u + ", " + v + ", wrap " + wrap + ", soft " + soft, box.pixel(5, 2) >> 16, due);
        }
    }

    /** A number from -5 on, of a side of 2. */
    private static int round(int i, int wrap) {
        int[][] due = {{1, 0, 1, 0, 1, 0, 1, 0, 1, 0, 1}, {0, 0, 0, 0, 0, 0, 1, 1, 1, 1, 1}, {0, 0, 1, 1, 0, 0, 1, 1, 0, 0, 1}};
        return due[wrap][i + 5];
    }

    // ---- ON THE PICTURE

    /** "r = DIV(4294967296, z)": where that just comes out (z * 641 is 4294967297), and as far away as can be. */
    private static void farAway() {
        int[][] due = {{6700416, 641}, {6700417, 640}, {6700418, 640}, {8388608, 512}, {8388609, 511}, {16711935, 257},
            {16711936, 256}, {FAR - 1, 256}, {FAR, 256}};
        for (int[] d : due) {
            StringBuilder nodes = new StringBuilder();
            int left = d[0];
            for (int i = 0; i < 3; i++) {
                int z = Math.min(left, 4 * MOST);
                nodes.append(Texts.node(i - 1, -1, 0, 0, z)).append(",");
                left -= z;
            }
            nodes.append(node(2, 0, "0,0," + left, "0,0,0", Texts.repeat("1048576", 3)));
            Fresh box = drawn(48, 48, white("", Texts.square(0, MOST), nodes.toString()));
            for (int i = 0; i < 48 * 48; i += 7) {
                Due.is("nearness of " + d[0], box.nearness(i % 48, i / 48), d[1]);
                Due.is("pixel of " + d[0], box.pixel(i % 48, i / 48), 0xFFFFFF);
                Due.is("pick of " + d[0], box.pick(i % 48, i / 48), 3);
            }
        }
    }

    /** A face without light is there all the same, whichever of its corners is the first one. */
    private static void withoutLight() {
        String[] faces = {"0,1,2", "1,2,0", "2,0,1", "0,2,3", "2,3,0", "3,0,2"};
        for (int n = 0; n < faces.length; n++) {
            String text = white("", Texts.square(0, 65536, 0, faces[n]), Texts.node(-1, 0, 0, 0, 262144));
            Fresh box = loaded(16, 16, text.substring(0, text.length() - 1) + ",\"light\":{\"toward\":[0,0,0],\"ambient\":0}}");
            box.background(1, 2, 3);
            Due.drawAll(box);
            for (int i = 0; i < 256; i++) {
                boolean in = n < 3 ? i % 16 >= i / 16 : i % 16 < i / 16;
                String at = " of " + faces[n] + " at " + i;
                Due.is("nearness" + at, box.nearness(i % 16, i / 16), in ? 16384 : 0);
                Due.is("pixel" + at, box.pixel(i % 16, i / 16), in ? 0 : 66051);
                Due.is("pick" + at, box.pick(i % 16, i / 16), in ? 0 : -1);
            }
        }
    }

    // ---- THE ORDER, TILES

    /** "where a piece covers it with a greater nearness": not with an equal one, and none less than what is there. */
    private static void greaterNearness() {
        String materials = Texts.material(255, 0, 0, 255, -1, 0) + "," + Texts.material(0, 255, 0, 255, -1, 0) + ","
            + Texts.material(0, 0, 255, 128, -1, 0);
        String meshes = Texts.square(0, 65536) + "," + Texts.square(1, 65536) + "," + Texts.square(2, 65536);
        // 262144 has nearness 16384, and so has 262143: 4294967296 / 262143 = 16384.06; 262128 has 16385.
        int[][] due = {{262144, 0xFF0000}, {262143, 0x00FF00}, {262145, 0xFF0000}, {262128, 0x00FF00}};
        for (int[] d : due) {
            Fresh box = drawn(16, 16, Texts.scene("", materials, meshes, Texts.node(-1, 0, 0, 0, 262144) + ","
                + Texts.node(-1, 1, 0, 0, d[0]), ""));
            Due.is("solid at " + d[0], box.pixel(8, 8), d[1]);
        }
        // 127 red and 128 blue where the clear one is nearer; a clear one that is just as near is not seen.
        int[][] clear = {{262144, 0xFF0000}, {262143, 0xFF0000}, {262145, 0xFF0000}, {262128, 0x7F0080}};
        for (int[] d : clear) {
            Fresh box = drawn(16, 16, Texts.scene("", materials, meshes, Texts.node(-1, 0, 0, 0, 262144) + ","
                + Texts.node(-1, 2, 0, 0, d[0]), ""));
            Due.is("clear at " + d[0], box.pixel(8, 8), d[1]);
            Due.is("the solid one's nearness at " + d[0], box.nearness(8, 8), 16384);
        }
    }

    /** 48 clear ones in a mixed order: the farthest first, each over those before it. */
    private static void orderOfMany() {
        StringBuilder nodes = new StringBuilder();
        int[] far = new int[48];
        for (int i = 0; i < 48; i++) {
            far[i] = 200000 + i * 29 % 48 / 2 * 4000;
            nodes.append(i == 0 ? "" : ",").append(Texts.node(-1, i % 3, 0, 0, far[i]));
        }
        String materials = Texts.material(255, 0, 0, 60, -1, 0) + "," + Texts.material(0, 255, 0, 60, -1, 0) + ","
            + Texts.material(0, 0, 255, 60, -1, 0);
        String meshes = Texts.square(0, 65536) + "," + Texts.square(1, 65536) + "," + Texts.square(2, 65536);
        Fresh box = drawn(16, 16, Texts.scene("", materials, meshes, nodes.toString(), ""));
        int[] colour = new int[3];
        for (int z = 300000; z >= 200000; z -= 1000) {
            for (int i = 0; i < 48; i++) {
                for (int k = 0; k < 3 && far[i] == z; k++) {
                    colour[k] = ((i % 3 == k ? 255 : 0) * 60 + colour[k] * 195) / 255;
                }
            }
        }
        Due.is("mixed", box.pixel(8, 8), colour[0] * 65536 + colour[1] * 256 + colour[2]);
    }

    /** "the fourth: 255 is solid, less is clear": from 254 down to 0. */
    private static void clearness() {
        int[] fourths = {255, 254, 128, 1, 0};
        for (int c : fourths) {
            Fresh box = loaded(16, 16, Texts.scene("", Texts.material(255, 0, 0, c, -1, 0), Texts.square(0, 65536),
                Texts.node(-1, 0, 0, 0, 262144), ""));
            box.background(0, 200, 255);
            Due.drawAll(box);
            int green = 200 * (255 - c) / 255;
            Due.is("fourth " + c, box.pixel(8, 8), c * 65536 + green * 256 + 255 - c);
            Due.is("nearness of fourth " + c, box.nearness(8, 8), c == 255 ? 16384 : 0);
            Due.is("pick of fourth " + c, box.pick(8, 8), 0);
        }
    }

    /** "TILES of 8 by 8 pixels (the last ones may have less), row by row from 0 on", for every size. */
    private static void tiles() {
        for (int width = 8; width <= 48; width++) {
            int height = 56 - width;
            Fresh box = new Fresh(width, height);
            int across = (width + 7) / 8;
            int tiles = across * ((height + 7) / 8);
            Due.is("tiles of " + width + " by " + height, box.begin(), tiles);
            int k = (width * 7) % tiles;
            Due.is("tile " + k, box.tile(k), true);
            for (int i = 0; i < width * height; i += 3) {
                int x = i % width;
                int y = i / width;
                boolean in = y / 8 * across + x / 8 == k;
                Due.is("pixel " + x + " " + y + " of tile " + k, box.pixel(x, y), in ? 0 : OrreryBox.NONE);
                Due.is("nearness " + x + " " + y + " of tile " + k, box.nearness(x, y), in ? 0 : OrreryBox.NONE);
            }
        }
    }

    public static void main(String[] args) {
        sines();
        everySine();
        downwards();
        boundOfMatrices();
        boundOfPoints();
        boundOfDirections();
        aroundKeys();
        farKeys();
        tracksInOrder();
        lightBounds();
        nearSide();
        beyondSides();
        edges();
        areas();
        tinyPieces();
        nearByOne();
        manyPoints();
        viewOfTurns();
        lightOfAxes();
        wraps();
        softEdges();
        oneTexel();
        lastLevel();
        meansOfFour();
        levelBounds();
        exactPlaces();
        farAway();
        withoutLight();
        greaterNearness();
        orderOfMany();
        clearness();
        tiles();
        Due.close("TermsTest");
    }
}

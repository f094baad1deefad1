/** Promises 15 to 18: begin, tile, pixel and nearness. */
public final class PictureTest {
    private static final String WHITE = Texts.material(255, 255, 255, 255, -1, 0);

    private static Fresh drawn(int width, int height, String text) {
        Fresh box = new Fresh(width, height);
        Due.is("load of " + text, Due.load(box, text) != Due.ILLEGAL_ARGUMENT, true);
        Due.drawAll(box);
        return box;
    }

    private static String one(String texture, String material, String mesh, int z) {
        return Texts.scene(texture, material, mesh, Texts.node(-1, 0, 0, 0, z), "");
    }

    /** Pixels with that colour, as rows of # and . */
    private static void looks(String name, Fresh box, int colour, String... rows) {
        for (int y = 0; y < rows.length; y++) {
            for (int x = 0; x < rows[y].length(); x++) {
                Due.is(name + ": pixel(" + x + ", " + y + ") has it", box.pixel(x, y) == colour, rows[y].charAt(x) == '#');
            }
        }
    }

    private static void tiles() {
        Fresh box = new Fresh(20, 9);
        Due.is("load", Due.load(box, Texts.redSquare()), 1);
        Due.is("tile without a picture", box.tile(0), false);
        Due.is("begin", box.begin(), 6);
        Due.is("pixel before its tile", box.pixel(0, 0), -1);
        Due.is("nearness before its tile", box.nearness(0, 0), -1);
        Due.is("tile(-1)", box.tile(-1), false);
        Due.is("tile(6)", box.tile(6), false);
        Due.is("tile(64)", box.tile(64), false);
        Due.is("tile(MIN)", box.tile(Integer.MIN_VALUE), false);
        Due.is("tile(MAX)", box.tile(Integer.MAX_VALUE), false);
        Due.is("tile(5)", box.tile(5), true);
        Due.is("tile(5) again", box.tile(5), false);
        Due.is("the last pixel", box.pixel(19, 8), 0);
        Due.is("its tile's first", box.pixel(16, 8), 0xFF0000);
        Due.is("left of it", box.pixel(15, 8), -1);
        Due.is("above it", box.pixel(16, 7), -1);
        Due.is("outside", box.pixel(20, 8), -1);
        Due.is("outside", box.pixel(19, 9), -1);
        Due.is("outside", box.nearness(-1, 8), -1);
        Due.is("outside", box.nearness(19, -1), -1);
        Due.is("outside", box.pixel(Integer.MIN_VALUE, Integer.MAX_VALUE), -1);
        Due.is("tile(1)", box.tile(1), true);
        Due.is("red", box.pixel(8, 0), 0xFF0000);
        Due.is("nearness", box.nearness(8, 0), 16384);
        Due.is("not all are done", box.file(), -1);
        Due.is("begin again", box.begin(), 6);
        Due.is("none is done", box.pixel(8, 0), -1);
        Due.is("tile(1)", box.tile(1), true);
    }

    /** What changes after begin is not seen, whatever it is, and in whatever order the tiles come. */
    private static void asItWasThen() {
        String scene = Texts.scene(Texts.texture(1, 0, 0, "255,0,0"), Texts.material(255, 255, 255, 255, 0, 0),
            Texts.square(0, 32768), Texts.node(-1, 0, 0, 0, 262144), Texts.track(0, 0, 0, "0", "0,0,524288"));
        Fresh box = new Fresh(16, 16);
        Due.is("load", Due.load(box, scene), 1);
        box.begin();
        box.tile(3);
        box.background(9, 9, 9);
        box.tile(2);
        box.set(0, 0, 0, 0, 70000);
        box.hide(0, true);
        box.time(3);
        box.camera(2, 512, 0, 0);
        box.light(0, 0, 0, 0);
        Due.is("load", Due.load(box, scene.replace("255,0,0", "0,255,0")), 1);
        Due.is("load", Due.load(box, scene.replace("255,0,0", "0,0,255")), 1);
        Due.is("load", Due.load(box, Texts.redSquare() + "x"), Due.ILLEGAL_ARGUMENT);
        box.pick(8, 8);
        box.tile(1);
        box.tile(0);
        for (int y = 0; y < 16; y++) {
            for (int x = 0; x < 16; x++) {
                boolean inside = x >= 4 && x < 12 && y >= 4 && y < 12;
                Due.is("pixel " + x + " " + y, box.pixel(x, y), inside ? 0xFF0000 : 0);
                Due.is("nearness " + x + " " + y, box.nearness(x, y), inside ? 16384 : 0);
            }
        }
        Due.drawAll(box);
        Due.is("the next one is as it is now", box.pixel(8, 8), 255);
        Due.is("the next one is as it is now", box.pixel(0, 0), 9 * 65536 + 9 * 256 + 9);
    }

    /** A square from pixel middle to pixel middle: its left and upper edges cover, its right and lower ones do not. */
    private static void edges() {
        Fresh box = drawn(16, 16, one("", WHITE, Texts.square(0, 28672), 262144));
        String in = "....#######.....";
        String out = "................";
        looks("middles on edges", box, 0xFFFFFF, out, out, out, out, in, in, in, in, in, in, in, out, out, out, out, out);
        // Its two faces meet at the diagonal: each pixel belongs to one of them, so that none is drawn twice.
        box = drawn(16, 16, one("", Texts.material(255, 255, 255, 100, -1, 0), Texts.square(0, 65536), 262144));
        for (int i = 0; i < 256; i++) {
            Due.is("once " + i, box.pixel(i % 16, i / 16), 0x646464);
            Due.is("nothing solid " + i, box.nearness(i % 16, i / 16), 0);
        }
    }

    private static void sides() {
        String back = "0,2,1,0,3,2";
        Fresh box = drawn(16, 16, one("", WHITE, Texts.square(0, 65536, 0, back), 262144));
        Due.is("from behind", box.pixel(8, 8), 0);
        box = drawn(16, 16, one("", Texts.material(255, 255, 255, 255, -1, 1), Texts.square(0, 65536, 0, back), 262144));
        Due.is("from behind, with both", box.pixel(8, 8), 0xFFFFFF);
        Due.is("from behind, with both", box.nearness(8, 8), 16384);
        box = drawn(16, 16, one("", Texts.material(255, 255, 255, 255, -1, 1), Texts.square(0, 65536, 0, "0,1,1,2,2,2"), 262144));
        Due.is("without an area", box.pixel(8, 8), 0);
    }

    private static void nearerOnes() {
        String materials = Texts.material(255, 0, 0, 255, -1, 0) + "," + Texts.material(0, 255, 0, 255, -1, 0);
        String meshes = Texts.square(0, 65536) + "," + Texts.square(1, 32768);
        String near = Texts.node(-1, 1, 0, 0, 131072);
        String far = Texts.node(-1, 0, 0, 0, 262144);
        for (String nodes : new String[] {near + "," + far, far + "," + near}) {
            Fresh box = drawn(16, 16, Texts.scene("", materials, meshes, nodes, ""));
            Due.is("the nearer one", box.pixel(8, 8), 0x00FF00);
            Due.is("its nearness", box.nearness(8, 8), 32768);
        }
        // As near as the other one: the first in the order stays.
        Fresh box = drawn(16, 16, Texts.scene("", materials, meshes, far + "," + Texts.node(-1, 1, 0, 0, 262144), ""));
        Due.is("equal ones by number", box.pixel(8, 8), 0xFF0000);
        box = drawn(16, 16, Texts.scene("", materials, meshes, Texts.node(-1, 1, 0, 0, 262144) + "," + far, ""));
        Due.is("equal ones by number", box.pixel(8, 8), 0x00FF00);
        Due.is("beside it", box.pixel(1, 1), 0xFF0000);
        // The order goes by the node's own place: the second one stands nearer, and its points lie as far off.
        String deep = Texts.square(1, 65536, 131072, "0,1,2,0,2,3");
        box = drawn(16, 16, Texts.scene("", materials, Texts.square(0, 65536) + "," + deep, far + "," + near, ""));
        Due.is("as near", box.nearness(8, 8), 16384);
        Due.is("the least first", box.pixel(8, 8), 0x00FF00);
    }

    private static void clearOnes() {
        String materials = Texts.material(255, 0, 0, 255, -1, 0) + "," + Texts.material(255, 255, 255, 127, -1, 0) + ","
            + Texts.material(0, 0, 255, 51, -1, 0) + "," + Texts.material(0, 255, 0, 0, -1, 0);
        String meshes = Texts.square(0, 65536) + "," + Texts.square(1, 65536) + "," + Texts.square(2, 65536) + ","
            + Texts.square(3, 65536);
        String red = Texts.node(-1, 0, 0, 0, 262144);
        String white = Texts.node(-1, 1, 0, 0, 200000);
        String blue = Texts.node(-1, 2, 0, 0, 150000);
        String none = Texts.node(-1, 3, 0, 0, 100000);
        Fresh box = drawn(16, 16, Texts.scene("", materials, meshes, white + "," + red, ""));
        Due.is("white over red", box.pixel(8, 8), 0xFF7F7F);
        Due.is("the nearness of the solid one", box.nearness(8, 8), 16384);
        box = drawn(16, 16, Texts.scene("", materials, meshes, Texts.node(-1, 1, 0, 0, 270000) + "," + red, ""));
        Due.is("white behind red", box.pixel(8, 8), 0xFF0000);
        // 255 * 204 / 255 = 204, 127 * 204 / 255 = 101.6, (255 * 51 + 127 * 204) / 255 = 152.6
        for (String nodes : new String[] {blue + "," + white + "," + red, red + "," + white + "," + blue}) {
            box = drawn(16, 16, Texts.scene("", materials, meshes, nodes, ""));
            Due.is("blue over white over red", box.pixel(8, 8), 204 * 65536 + 101 * 256 + 152);
        }
        box = drawn(16, 16, Texts.scene("", materials, meshes, red + "," + none, ""));
        Due.is("what is wholly clear", box.pixel(8, 8), 0xFF0000);
        // As far as one another: blue, the first one, comes first; then white at the same nearness, as none is solid.
        box = drawn(16, 16, Texts.scene("", materials, meshes, Texts.node(-1, 2, 0, 0, 200000) + "," + white, ""));
        Due.is("equal clear ones by number", box.pixel(8, 8), 127 * 65536 + 127 * 256 + (255 * 127 + 51 * 128) / 255);
    }

    /** Far larger than the picture, and partly behind the camera: cut, and drawn wherever it is. */
    private static void cutOnes() {
        Fresh box = drawn(16, 16, one("", WHITE, Texts.square(0, 1048576), 262144));
        for (int i = 0; i < 256; i++) {
            Due.is("all of it " + i, box.pixel(i % 16, i / 16), 0xFFFFFF);
            Due.is("all as near " + i, box.nearness(i % 16, i / 16), 16384);
        }
        // A floor: y = 65536 for all points, z from -1048576 to 1048576.
        String floor = "{\"material\":0,\"points\":[-1048576,65536,-1048576,-1048576,65536,1048576,1048576,65536,1048576,"
            + "1048576,65536,-1048576],\"normals\":[0,0,-65536,0,0,-65536,0,0,-65536,0,0,-65536],"
            + "\"places\":[0,0,0,0,0,0,0,0],\"faces\":[0,1,2,0,2,3]}";
        box = drawn(16, 16, Texts.scene("", WHITE, floor, Texts.node(-1, 0, 0, 0, 0), ""));
        for (int x = 0; x < 16; x++) {
            Due.is("above the horizon", box.pixel(x, 7), 0);
            Due.is("beyond its far edge", box.pixel(x, 9), 0);
            Due.is("on the floor", box.pixel(x, 10), 0xFFFFFF);
            Due.is("on the floor", box.pixel(x, 15), 0xFFFFFF);
        }
        // At row 15 the middle is 7.5 pixels below: z = 32 * 65536 / 7.5, nearness 65536 * 7.5 / 32 = 15360.
        Due.is("nearness on the floor", Math.abs(box.nearness(8, 15) - 15360) <= 2, true);
        Due.is("nearness on the floor", Math.abs(box.nearness(0, 10) - 5120) <= 2, true);
        Due.is("too near", drawn(16, 16, one("", WHITE, Texts.square(0, 65536), 4095)).pixel(8, 8), 0);
        Due.is("as near as can be", drawn(16, 16, one("", WHITE, Texts.square(0, 65536), 4096)).nearness(8, 8), 1048576);
        Due.is("behind", drawn(16, 16, one("", WHITE, Texts.square(0, 65536), -262144)).pixel(8, 8), 0);
    }

    private static final String FOUR = "255,0,0,0,255,0,0,0,255,255,255,255";

    private static void textures() {
        Fresh box = drawn(16, 16, one(Texts.texture(2, 0, 0, FOUR), Texts.material(255, 255, 255, 255, 0, 0),
            Texts.square(0, 65536), 262144));
        int[] quarter = {0xFF0000, 0x00FF00, 0x0000FF, 0xFFFFFF};
        for (int i = 0; i < 256; i++) {
            Due.is("quarters " + i, box.pixel(i % 16, i / 16), quarter[i / 128 * 2 + i % 16 / 8]);
        }
        box = drawn(16, 16, one(Texts.texture(2, 0, 0, FOUR), Texts.material(100, 51, 200, 255, 0, 0),
            Texts.square(0, 65536), 262144));
        Due.is("times the colour", box.pixel(15, 15), 100 * 65536 + 51 * 256 + 200);
        // At the middle of the texels soft is as hard; half way between two it is the mean.
        box = drawn(8, 8, softScene(1));
        Due.is("soft, in the first texel's middle", box.pixel(1, 1) >> 16 > 200, true);
        // Pixel 3, 0: u = 28672, a = 57344 - 32768 = 24576: g = 96; v = 4096, b = -24576: j = -1, k = 160, the last one.
        Due.is("soft, between two", box.pixel(3, 0), (255 * 160 * 256 >> 16) * 65536 + (255 * 96 * 256 >> 16) * 256);
        // Round: row -1 is row 1: blue and white.
        box = drawn(8, 8, softScene(0));
        int red = 255 * 160 * 160 + 255 * 96 * 96 >> 16;
        int green = 255 * 96 * 160 + 255 * 96 * 96 >> 16;
        int blue = 255 * 160 * 96 + 255 * 96 * 96 >> 16;
        Due.is("soft, round", box.pixel(3, 0), red * 65536 + green * 256 + blue);
        box = drawn(8, 8, softScene(2));
        Due.is("soft, to and fro", box.pixel(3, 0), (255 * 160 * 256 >> 16) * 65536 + (255 * 96 * 256 >> 16) * 256);
    }

    private static String softScene(int wrap) {
        return one(Texts.texture(2, wrap, 1, FOUR), Texts.material(255, 255, 255, 255, 0, 0), Texts.square(0, 32768), 262144);
    }

    /** Places from -2 to 2: a texture of 4 by 1 kinds of columns seen four times, each wrap in its own way. */
    private static void wraps() {
        StringBuilder texels = new StringBuilder();
        for (int i = 0; i < 16; i++) {
            texels.append(i == 0 ? "" : ",").append(i % 4 * 10 + 10).append(",0,0");
        }
        int[][] due = {{1, 2, 3, 4, 1, 2, 3, 4, 1, 2, 3, 4, 1, 2, 3, 4}, {1, 1, 1, 1, 1, 1, 1, 1, 1, 2, 3, 4, 4, 4, 4, 4},
            {1, 2, 3, 4, 4, 3, 2, 1, 1, 2, 3, 4, 4, 3, 2, 1}};
        for (int wrap = 0; wrap < 3; wrap++) {
            String mesh = Texts.square(0, 65536).replace("\"places\":[0,0,65536,0,65536,65536,0,65536]",
                "\"places\":[-131072,-131072,131072,-131072,131072,131072,-131072,131072]");
            Fresh box = drawn(16, 16, one(Texts.texture(4, wrap, 0, texels.toString()),
                Texts.material(255, 255, 255, 255, 0, 0), mesh, 262144));
            for (int x = 0; x < 16; x++) {
                Due.is("wrap " + wrap + " at " + x, box.pixel(x, 9) >> 16, 10 * due[wrap][x]);
            }
        }
    }

    /** A 255 in the upper left: that quarter's mean is 63 (from 63.75), the whole one's 15 (from 15.75). */
    private static void levels() {
        String dark = Texts.repeat("0,0,0", 4);
        String texture = Texts.texture(4, 0, 0, "0,0,0,255,255,255,0,0,0,0,0,0," + Texts.repeat(dark, 3));
        // As many pixels wide as texels: level 0.
        greyIs("level 0", texture, 65536, 0, 4, 0, 0xFFFFFF);
        greyIs("level 0", texture, 16384, 0, 7, 6, 0xFFFFFF);
        greyIs("level 0", texture, 16384, 0, 6, 6, 0);
        // A little less is level 1, down to half of it.
        greyIs("level 1", texture, 16128, 0, 7, 7, 0x3F3F3F);
        greyIs("level 1", texture, 8192, 0, 7, 7, 0x3F3F3F);
        greyIs("level 1", texture, 8192, 0, 8, 7, 0);
        greyIs("level 2", texture, 8000, 0, 7, 7, 0x0F0F0F);
        greyIs("level 2", texture, 8000, 0, 8, 7, 0x0F0F0F);
        greyIs("level 2", texture, 4096, 0, 7, 7, 0x0F0F0F);
        greyIs("the last one", texture, 2048, 4096, 8, 8, 0x0F0F0F);
        greyIs("the last one of one", Texts.texture(1, 0, 0, "7,7,7"), 2048, 4096, 8, 8, 0x070707);
    }

    private static void greyIs(String name, String texture, int half, int move, int x, int y, int grey) {
        Fresh box = drawn(16, 16, Texts.scene(texture, Texts.material(255, 255, 255, 255, 0, 0),
            Texts.square(0, half), Texts.node(-1, 0, move, move, 262144), ""));
        Due.is(name + " of " + half, box.pixel(x, y), grey);
        Due.is(name + " of " + half + " is drawn", box.nearness(x, y), 16384);
    }

    /** Light and places go with the nearness, as a slope is seen. */
    private static void slopes() {
        String slope = "{\"material\":0,\"points\":[-65536,-65536,0,65536,-65536,0,262144,262144,786432,-262144,262144,786432],"
            + "\"normals\":[0,0,-65536,0,0,-65536,0,0,0,0,0,0],\"places\":[0,0,0,0,0,0,0,0],\"faces\":[0,1,2,0,2,3]}";
        Fresh box = new Fresh(16, 16);
        Due.load(box, Texts.scene("", WHITE, slope, Texts.node(-1, 0, 0, 0, 262144), ""));
        box.light(0, 0, -65536, 0);
        Due.drawAll(box);
        // r falls from 16384 to 4096 down the picture; at row 7 (15 of 32): 16384 * 17 + 4096 * 15, by 32 = 10624.
        Due.is("nearness", box.nearness(8, 7), 10624);
        // l: 16384 * 17 * 65536 / (10624 * 32) = 53692.1: 255 * 53692 / 65536 = 208.9
        Due.is("light", box.pixel(8, 7), 208 * 65536 + 208 * 256 + 208);
    }

    public static void main(String[] args) {
        tiles();
        asItWasThen();
        edges();
        sides();
        nearerOnes();
        clearOnes();
        cutOnes();
        textures();
        wraps();
        levels();
        slopes();
        Due.close("PictureTest");
    }
}

/**
 * THE ORDER: "Of a node its faces in order, of a face its pieces in order; of all pieces that are not nothing the first
 * 36,864 are there, further ones are nothing (for pick(), too)."
 *
 * Cutting rounds, and so a small face near the camera may be cut to nine corners and have seven pieces: 41 nodes with 128
 * such faces have 36,736 of them, and the 128 that are left are counted out here one by one.
 */
public final class PiecesTest {
    /** 7 pieces of 9 corners, none of AREA 0, in a picture of 8 by 8 with focus 512. */
    private static final String SEVEN = "107,-107,6851,84,125,4102,-73,-64,4094";
    /** 6 pieces of 9 corners, and one of AREA 0: as an issue told. */
    private static final String SIX = "-67,73,4100,118,-113,4084,-99,-99,6337";
    /** One piece, between the pixels' middles. */
    private static final String ONE = "10,10,8192,20,10,8192,10,20,8192";
    /** Two points are one: AREA 0. */
    private static final String FLAT = "-60,-60,4096,60,60,4096,60,60,4096";
    /** Nearer than all others, over the whole picture: 0 1 2 is its upper right half, 0 2 3 the lower left. */
    private static final String NEAR = "-60,-60,4096,60,-60,4096,60,60,4096,-60,60,4096";
    /** A face that two sides cut to the same two halves. */
    private static final String CUT = "-64,-64,4096,192,-64,4096,-64,192,4096";
    private static final int NEAREST = 1048576;
    private static final int GREEN = 0x00FF00;

    private static String mesh(int material, String points, String faces) {
        int n = points.split(",").length / 3;
        return "{\"material\":" + material + ",\"points\":[" + points + "],\"normals\":[" + Texts.repeat("0,0,0", n)
            + "],\"places\":[" + Texts.repeat("0,0", n) + "],\"faces\":[" + faces + "]}";
    }

    private static String many(int material, String points, int faces) {
        return mesh(material, points, Texts.repeat("0,1,2", faces));
    }

    private static Fresh loaded(int redFourth, int greenFourth, String nodes, String... meshes) {
        String scene = Texts.scene("", Texts.material(255, 0, 0, redFourth, -1, 1) + ","
            + Texts.material(0, 255, 0, greenFourth, -1, 1), String.join(",", meshes), nodes, "");
        String text = scene.substring(0, scene.length() - 1) + ",\"camera\":{\"move\":[0,0,0],\"turn\":[0,0,0],\"focus\":512},"
            + "\"light\":{\"toward\":[0,0,0],\"ambient\":65536}}";
        Due.is("it can be fed within 512 calls", text.length() < 20 * 400, true);
        Fresh box = new Fresh(8, 8);
        Due.is("load", Due.load(box, text) != Due.ILLEGAL_ARGUMENT, true);
        box.begin();
        box.tile(0);
        return box;
    }

    /** So many nodes with each mesh in turn, all at the same place: THE ORDER goes by their numbers. */
    private static String nodes(int... counts) {
        StringBuilder nodes = new StringBuilder();
        for (int mesh = 0; mesh < counts.length; mesh++) {
            for (int i = 0; i < counts[mesh]; i++) {
                nodes.append(nodes.length() == 0 ? "" : ",").append(Texts.node(-1, mesh, 0, 0, 0));
            }
        }
        return nodes.toString();
    }

    private static void halvesAre(String name, Fresh box, int node, int upperFace, int lowerFace) {
        halfIs(name + ", upper half", box, 6, 1, node, upperFace);
        halfIs(name + ", lower half", box, 1, 6, node, lowerFace);
    }

    /** The near piece is there and has that face; or it is not, and the face is NONE. */
    private static void halfIs(String name, Fresh box, int x, int y, int node, int face) {
        boolean there = face != OrreryBox.NONE;
        Due.is(name + " is drawn", box.pixel(x, y) == GREEN, there);
        Due.is(name + " has its nearness", box.nearness(x, y) == NEAREST, there);
        Due.is(name + " is picked", box.pick(x, y) == node, there);
        if (there) {
            Due.is(name + " has its face", box.picked(), face);
        }
    }

    /** 36,736 and so many more before the two near ones: the last one that is there is the 36,864th. */
    private static void theFirstOnes() {
        int[][] due = {{1, 0, 1}, {126, 0, 1}, {127, 0, -1}, {128, -1, -1}};
        for (int[] d : due) {
            Fresh box = loaded(255, 255, nodes(41, 1, 1), many(0, SEVEN, 128), many(0, ONE, d[0]),
                mesh(1, NEAR, "0,1,2,0,2,3"));
            halvesAre(36736 + d[0] + " before", box, 42, d[1], d[2]);
        }
    }

    /** The last one that is there may be in the middle of a face. */
    private static void piecesOfOneFace() {
        int[][] due = {{126, 0, 0}, {127, 0, -1}, {128, -1, -1}};
        for (int[] d : due) {
            Fresh box = loaded(255, 255, nodes(41, 1, 1), many(0, SEVEN, 128), many(0, ONE, d[0]), mesh(1, CUT, "0,1,2"));
            halvesAre("one face, " + (36736 + d[0]) + " before", box, 42, d[1], d[2]);
        }
    }

    /** What is nothing is as if it were not: every pixel is the same without it. */
    private static void furtherOnesAreNothing() {
        String[] meshes = {many(0, SEVEN, 128), many(0, ONE, 127), mesh(1, NEAR, "0,1,2,0,2,3"), mesh(1, NEAR, "0,1,2")};
        Fresh both = loaded(255, 255, nodes(41, 1, 1), meshes);
        Fresh one = loaded(255, 255, nodes(41, 1, 0, 1), meshes);
        for (int i = 0; i < 64; i++) {
            int x = i % 8;
            int y = i / 8;
            Due.is("pixel " + i, both.pixel(x, y), one.pixel(x, y));
            Due.is("nearness " + i, both.nearness(x, y), one.nearness(x, y));
            Due.is("pick " + i, both.pick(x, y), one.pick(x, y));
            Due.is("picked " + i, both.picked(), one.picked());
        }
    }

    /** Pieces that are nothing, and those of nodes that are not seen, are not counted. */
    private static void whatIsNotCounted() {
        Fresh box = loaded(255, 255, nodes(41, 1, 1, 1), many(0, SEVEN, 128), many(0, FLAT, 128), many(0, ONE, 126),
            mesh(1, NEAR, "0,1,2,0,2,3"));
        halvesAre("flat ones before", box, 43, 0, 1);
        box = loaded(255, 255, nodes(46, 1), many(0, SEVEN, 128), mesh(1, NEAR, "0,1,2,0,2,3"));
        halvesAre("46 nodes of them", box, 46, -1, -1);
        for (int node = 0; node < 5; node++) {
            box.hide(node, true);
        }
        box.begin();
        box.tile(0);
        halvesAre("five of them are hidden", box, 46, 0, 1);
        box.hide(4, false);
        box.begin();
        box.tile(0);
        halvesAre("four of them are hidden", box, 46, -1, -1);
        box.set(4, 0, 0, 0, -4194304);
        box.begin();
        box.tile(0);
        halvesAre("four are hidden, and one is behind", box, 46, 0, 1);
    }

    /** However many are nothing one behind the other: here each face is cut to a line of seven corners or so. */
    private static void manyNothings() {
        String line = "-300,-300,4000,300,300,4300,300,300,4300";
        Fresh box = loaded(255, 255, nodes(47, 1), many(0, line, 128), mesh(1, NEAR, "0,1,2,0,2,3"));
        halvesAre("6,016 faces that are nothing", box, 47, 0, 1);
    }

    /** Solid ones come first, whatever their numbers; clear ones are counted behind them. */
    private static void solidOnesFirst() {
        Fresh box = loaded(100, 255, nodes(46, 1), many(0, SEVEN, 128), mesh(1, NEAR, "0,1,2,0,2,3"));
        halvesAre("solid behind 46 clear ones", box, 46, 0, 1);
        int[][] due = {{126, 42, 42}, {127, 42, -1}, {128, -1, -1}};
        for (int[] d : due) {
            box = loaded(255, 0, nodes(41, 1, 1), many(0, SEVEN, 128), many(0, ONE, d[0]), mesh(1, NEAR, "0,1,2,0,2,3"));
            Due.is("clear behind " + d[0], box.pick(6, 1) == 42, d[1] == 42);
            Due.is("clear behind " + d[0], box.pick(1, 6) == 42, d[2] == 42);
        }
    }

    /** 43 nodes with 128 faces of nine corners, but of six pieces that count: there is room for all of them. */
    private static void nineCorners() {
        Fresh box = loaded(255, 255, nodes(43, 1), many(0, SIX, 128), mesh(1, NEAR, "0,1,2,0,2,3"));
        halvesAre("33,024 before", box, 43, 0, 1);
        box = loaded(255, 255, nodes(47, 1), many(0, SIX, 128), mesh(1, NEAR, "0,1,2,0,2,3"));
        halvesAre("36,096 before", box, 47, 0, 1);
    }

    public static void main(String[] args) {
        theFirstOnes();
        piecesOfOneFace();
        furtherOnesAreNothing();
        whatIsNotCounted();
        manyNothings();
        solidOnesFirst();
        nineCorners();
        Due.close("PiecesTest");
    }
}

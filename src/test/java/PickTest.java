/** Promises 19 and 20: pick and picked. */
public final class PickTest {
    private static Fresh loaded(String materials, String meshes, String nodes) {
        Fresh box = new Fresh(16, 16);
        Due.is("load", Due.load(box, Texts.scene("", materials, meshes, nodes, "")) != Due.ILLEGAL_ARGUMENT, true);
        return box;
    }

    private static void met(Fresh box, int x, int y, int node, int face) {
        Due.is("pick(" + x + ", " + y + ")", box.pick(x, y), node);
        Due.is("picked() after pick(" + x + ", " + y + ")", box.picked(), face);
    }

    private static void faces() {
        Fresh box = loaded(Texts.material(255, 0, 0, 255, -1, 0), Texts.square(0, 32768), Texts.node(-1, 0, 0, 0, 262144));
        Due.is("there was none", box.picked(), -1);
        met(box, 10, 5, 0, 0);
        met(box, 5, 10, 0, 1);
        met(box, 3, 8, -1, -1);
        met(box, 4, 8, 0, 1);
        met(box, 11, 8, 0, 0);
        met(box, 12, 8, -1, -1);
        met(box, 8, 3, -1, -1);
        met(box, 8, 4, 0, 0);
        met(box, 8, 11, 0, 1);
        met(box, 8, 12, -1, -1);
        met(box, 4, 11, 0, 1);
        met(box, 11, 4, 0, 0);
        met(box, 10, 5, 0, 0);
        met(box, -1, 5, -1, -1);
        met(box, 10, 5, 0, 0);
        met(box, 16, 5, -1, -1);
        met(box, 5, 16, -1, -1);
        met(box, 5, -1, -1, -1);
        met(box, Integer.MAX_VALUE, Integer.MIN_VALUE, -1, -1);
        met(box, 10, 5, 0, 0);
        box.begin();
        box.tile(0);
        Due.is("a picture leaves it", box.picked(), 0);
    }

    /** Of the scene as it is now, whatever a picture shows. */
    private static void now() {
        Fresh box = loaded(Texts.material(255, 0, 0, 255, -1, 0), Texts.square(0, 32768), Texts.node(-1, 0, 0, 0, 262144));
        Due.drawAll(box);
        box.set(0, 0, 65536, 0, 262144);
        met(box, 5, 8, -1, -1);
        met(box, 13, 6, 0, 1);
        Due.is("the picture stays", box.pixel(5, 8), 0xFF0000);
        box.hide(0, true);
        met(box, 13, 6, -1, -1);
    }

    private static void nearest() {
        String materials = Texts.material(255, 0, 0, 255, -1, 0) + "," + Texts.material(0, 255, 0, 0, -1, 0);
        String meshes = Texts.square(0, 32768) + "," + Texts.square(1, 32768);
        String solid = Texts.node(-1, 0, 0, 0, 262144);
        met(loaded(materials, meshes, solid + "," + Texts.node(-1, 1, 0, 0, 260000)), 9, 6, 1, 0);
        met(loaded(materials, meshes, Texts.node(-1, 1, 0, 0, 260000) + "," + solid), 9, 6, 0, 0);
        met(loaded(materials, meshes, solid + "," + Texts.node(-1, 1, 0, 0, 264000)), 9, 6, 0, 0);
        // At a tie the first in the order: a solid one, whatever its number; of equal ones the lower number.
        met(loaded(materials, meshes, Texts.node(-1, 1, 0, 0, 262144) + "," + solid), 9, 6, 1, 0);
        met(loaded(materials, meshes, solid + "," + solid), 9, 6, 0, 0);
        met(loaded(materials, meshes, Texts.node(-1, 1, 0, 0, 262144) + "," + Texts.node(-1, 1, 0, 0, 262144)), 9, 6, 0, 0);
        // The same face twice: the first one.
        met(loaded(materials, Texts.square(0, 32768, 0, "0,2,3,0,1,2,0,1,2"), solid), 9, 6, 0, 1);
        // As near, but the node itself stands nearer: solid ones the least first, clear ones the greatest.
        for (int m = 0; m < 2; m++) {
            String deep = Texts.square(m, 32768, 131072, "0,1,2,0,2,3");
            String two = Texts.square(m, 32768) + "," + deep;
            met(loaded(materials, two, solid + "," + Texts.node(-1, 1, 0, 0, 131072)), 9, 6, m == 0 ? 1 : 0, 0);
            met(loaded(materials, two, Texts.node(-1, 1, 0, 0, 131072) + "," + solid), 9, 6, m == 0 ? 0 : 1, 0);
        }
    }

    private static void turnedAway() {
        String back = Texts.square(0, 32768, 0, "0,2,1,0,3,2");
        met(loaded(Texts.material(1, 1, 1, 255, -1, 0), back, Texts.node(-1, 0, 0, 0, 262144)), 9, 6, -1, -1);
        met(loaded(Texts.material(1, 1, 1, 255, -1, 1), back, Texts.node(-1, 0, 0, 0, 262144)), 9, 6, 0, 0);
    }

    public static void main(String[] args) {
        faces();
        now();
        nearest();
        turnedAway();
        Due.close("PickTest");
    }
}

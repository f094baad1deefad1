/** Texts of small scenes whose pictures can be worked out by hand. */
final class Texts {
    static final String STILL = "\"turn\":[0,0,0],\"size\":[65536,65536,65536]}";

    private Texts() {
    }

    static String material(int red, int green, int blue, int fourth, int texture, int both) {
        return "{\"colour\":[" + red + "," + green + "," + blue + "," + fourth + "],\"texture\":" + texture + ",\"both\":"
            + both + "}";
    }

    /** A square about 0 0 0 that looks at the camera, its faces 0 1 2 (upper right) and 0 2 3 (lower left). */
    static String square(int material, int half) {
        return square(material, half, 0, "0,1,2,0,2,3");
    }

    static String square(int material, int half, int z, String faces) {
        int h = half;
        String end = "," + z;
        return "{\"material\":" + material + ",\"points\":[" + -h + "," + -h + end + "," + h + "," + -h + end + "," + h + ","
            + h + end + "," + -h + "," + h + end + "],\"normals\":[0,0,-65536,0,0,-65536,0,0,-65536,0,0,-65536],"
            + "\"places\":[0,0,65536,0,65536,65536,0,65536],\"faces\":[" + faces + "]}";
    }

    static String node(int parent, int mesh, int x, int y, int z) {
        return "{\"parent\":" + parent + ",\"mesh\":" + mesh + ",\"move\":[" + x + "," + y + "," + z + "]," + STILL;
    }

    static String texture(int side, int wrap, int soft, String texels) {
        return "{\"side\":" + side + ",\"wrap\":" + wrap + ",\"soft\":" + soft + ",\"texels\":[" + texels + "]}";
    }

    static String track(int node, int what, int how, String times, String values) {
        return "{\"node\":" + node + ",\"what\":" + what + ",\"how\":" + how + ",\"times\":[" + times + "],\"values\":["
            + values + "]}";
    }

    static String scene(String textures, String materials, String meshes, String nodes, String tracks) {
        return "{\"textures\":[" + textures + "],\"materials\":[" + materials + "],\"meshes\":[" + meshes + "],\"nodes\":["
            + nodes + "],\"tracks\":[" + tracks + "]}";
    }

    /** One red square that fills a picture of 16 by 16 just so, at nearness 16384. */
    static String redSquare() {
        return scene("", material(255, 0, 0, 255, -1, 0), square(0, 65536), node(-1, 0, 0, 0, 262144), "");
    }

    static String nodes(int n) {
        StringBuilder nodes = new StringBuilder();
        for (int i = 0; i < n; i++) {
            nodes.append(i == 0 ? "" : ",").append(node(i - 1, -1, 0, 0, 0));
        }
        return nodes.toString();
    }

    static String repeat(String text, int n) {
        StringBuilder all = new StringBuilder();
        for (int i = 0; i < n; i++) {
            all.append(i == 0 ? "" : ",").append(text);
        }
        return all.toString();
    }
}

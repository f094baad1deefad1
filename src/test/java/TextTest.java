/** Promises 4 to 6: load, error and count. */
public final class TextTest {
    private static Fresh box;
    private static final String TEXTURE = "{\"side\":1,\"wrap\":0,\"soft\":0,\"texels\":[1,2,3]}";
    private static final String MATERIAL = "{\"colour\":[1,2,3,4],\"texture\":-1,\"both\":0}";
    private static final String MESH = "{\"material\":0,\"points\":[1,2,3],\"normals\":[0,0,0],\"places\":[0,0],"
        + "\"faces\":[0,0,0]}";
    private static final String NODE = "{\"parent\":-1,\"mesh\":-1,\"move\":[0,0,0],\"turn\":[0,0,0],\"size\":[0,0,0]}";
    private static final String TRACK = "{\"node\":0,\"what\":0,\"how\":0,\"times\":[0],\"values\":[0,0,0]}";
    private static final String CAMERA = "{\"move\":[0,0,0],\"turn\":[0,0,0],\"focus\":8}";
    private static final String LIGHT = "{\"toward\":[0,0,0],\"ambient\":0}";

    /** The byte that is wrong stands behind a caret in the text (the caret itself is left out). */
    private static void wrong(int what, String marked) {
        int at = marked.indexOf('^');
        String text = marked.substring(0, at) + marked.substring(at + 1);
        box = new Fresh(8, 8);
        Due.is("load of " + marked, Due.load(box, text), Due.ILLEGAL_ARGUMENT);
        Due.is("error(0) of " + marked, box.error(0), what);
        Due.is("error(1) of " + marked, box.error(1), at);
        Due.is("error(2)", box.error(2), 0);
        Due.is("error(-1)", box.error(-1), 0);
    }

    private static void right(String text, int nodes) {
        box = new Fresh(8, 8);
        again(text, nodes);
    }

    private static void again(String text, int nodes) {
        Due.is("load of " + text, Due.load(box, text), nodes);
        Due.is("error(0) of " + text, box.error(0), 0);
        Due.is("error(1) of " + text, box.error(1), 0);
    }

    private static String list(String name, String things) {
        return "{\"" + name + "\":[" + things + "]}";
    }

    /** Everything that a thing of that kind may refer to, and then the thing. */
    private static String behind(String name, String thing) {
        String text = "{\"textures\":[" + TEXTURE + "],\"materials\":[" + MATERIAL + "],\"meshes\":[" + MESH
            + "],\"nodes\":[" + NODE + "],\"tracks\":[" + TRACK + "]";
        int at = text.indexOf("\"" + name + "\"");
        return text.substring(0, at) + "\"" + name + "\":[" + thing + "]}";
    }

    private static void rightOnes() {
        right("{}", 0);
        right(" \t\r\n{ \t\r\n} \t\r\n", 0);
        right("{\"textures\":[],\"materials\":[],\"meshes\":[],\"nodes\":[],\"tracks\":[]}", 0);
        right("{\"meshes\":[],\"tracks\":[]}", 0);
        right("{\"camera\":" + CAMERA + ",\"light\":" + LIGHT + "}", 0);
        right("{\"light\":" + LIGHT + "}", 0);
        right(behind("tracks", TRACK), 1);
        right(behind("tracks", TRACK).replaceAll("([{}\\[\\]:,])", " \t$1\n\r"), 1);
        right(list("nodes", NODE + "," + NODE.replace("-1,\"mesh", "0,\"mesh")), 2);
        right(list("nodes", NODE.replace("[0,0,0],\"turn", "[-004194304,4194304,-0],\"turn")), 1);
        right(list("nodes", NODE.replace("[0,0,0],\"turn", "[" + "0".repeat(90) + "7,0,0],\"turn")), 1);
        right(list("textures", Texts.repeat(TEXTURE, 8)), 0);
        right(list("materials", Texts.repeat(MATERIAL, 16)), 0);
        right(list("nodes", Texts.nodes(48)), 48);
        Due.is("count(3)", box.count(3), 48);
        right(behind("meshes", Texts.repeat(MESH, 16)), 0);
        right(behind("tracks", Texts.repeat(TRACK, 32)), 1);
        int[] counts = {1, 1, 1, 1, 32, 0};
        for (int what = 0; what < 6; what++) {
            Due.is("count(" + what + ")", box.count(what), counts[what]);
        }
        right(list("textures", TEXTURE.replace("\"side\":1", "\"side\":32").replace("1,2,3", Texts.repeat("9", 3072))), 0);
        right(behind("meshes", MESH.replace("[1,2,3]", "[" + Texts.repeat("1048576", 384) + "]")
            .replace("\"normals\":[0,0,0]", "\"normals\":[" + Texts.repeat("-65536", 384) + "]")
            .replace("[0,0],", "[" + Texts.repeat("-131072", 256) + "],")
            .replace("\"faces\":[0,0,0]", "\"faces\":[" + Texts.repeat("127", 384) + "]")), 0);
        right(behind("tracks", TRACK.replace("[0],", "[0,1,1000000],").replace("[0,0,0]", "["
            + Texts.repeat("4194304", 9) + "]")), 1);
    }

    private static void noToken() {
        wrong(1, "^");
        wrong(1, "  ^");
        wrong(1, "{^");
        wrong(1, "{ \n^");
        wrong(1, "^x{}");
        wrong(1, "^[]");
        wrong(1, "{}^ ".replace("^ ", " ^{"));
        wrong(1, "{}^\u0000");
        wrong(1, "{}  ^}");
        wrong(1, "{^,}");
        wrong(1, "{^\"nodes");
        wrong(1, "{^\"nodes :[]}");
        wrong(1, "{^\" nodes\":[]}");
        wrong(1, "{^\"\":[]}");
        wrong(1, "{^\"Nodes\":[]}");
        wrong(1, "{^\"side\":[]}");
        wrong(1, "{^\"nodess\":[]}");
        wrong(1, "{\"nodes\"^[]}");
        wrong(1, "{\"nodes\":^{}}");
        wrong(1, "{\"nodes\":^1}");
        wrong(1, "{\"nodes\":[^");
        wrong(1, "{\"nodes\":[]^");
        wrong(1, "{\"nodes\":[],^");
        wrong(1, "{\"nodes\":[],^}");
        wrong(1, "{\"nodes\":[]^\"tracks\":[]}");
        wrong(1, "{\"nodes\":[],^\"nodes\":[]}");
        wrong(1, "{\"nodes\":[],^\"meshes\":[]}");
        wrong(1, "{\"nodes\":[^,]}");
        wrong(1, "{\"nodes\":[^1]}");
        wrong(1, "{\"nodes\":[{^}]}");
        wrong(1, "{\"nodes\":[" + NODE + "^{}]}");
        wrong(1, "{\"nodes\":[" + NODE + ",^]}");
        wrong(1, "{\"light\":" + LIGHT + "^,}");
        wrong(1, "{\"light\":" + LIGHT + "^,\"light\":" + LIGHT + "}");
        wrong(1, "{\"camera\":" + CAMERA + ",^}");
        wrong(1, "{\"camera\":" + CAMERA + ",^\"camera\":" + CAMERA + "}");
        wrong(1, "{\"camera\":^[]}");
        wrong(1, "{\"light\":{^\"ambient\":0}}");
        wrong(1, "{\"light\":{\"toward\":[0,0,0]^}}");
        wrong(1, "{\"light\":{\"toward\":[0,0,0],^}}");
        wrong(1, "{\"light\":{\"toward\":[0,0,0],\"ambient\":0^,}}");
        wrong(1, "{\"light\":{\"toward\":[0,0,0],\"ambient\":0^.5}}");
        wrong(1, "{\"light\":{\"toward\":[0,0,0],\"ambient\":0^x}}");
        wrong(1, "{\"light\":{\"toward\":[0,0,0],\"ambient\":^-}}");
        wrong(1, "{\"light\":{\"toward\":[0,0,0],\"ambient\":^- 1}}");
        wrong(1, "{\"light\":{\"toward\":[0,0,0],\"ambient\":^--1}}");
        wrong(1, "{\"light\":{\"toward\":[0,0,0],\"ambient\":^+1}}");
        wrong(1, "{\"light\":{\"toward\":[0,0,0],\"ambient\":^[0]}}");
        wrong(1, "{\"light\":{\"toward\":^0}}");
        wrong(1, "{\"light\":{\"toward\":[0 ^0]}}");
        wrong(1, "{\"light\":{\"toward\":[0,^]}}");
        wrong(1, "{\"light\":{\"toward\":[^,0]}}");
        wrong(1, "{\"light\":{\"toward\":[0^}}");
        wrong(1, "{\"light\":{\"toward\":[0^");
        wrong(1, "{\"light\":{\"toward\":[0,0,0^");
        wrong(1, list("textures", TEXTURE.replace("\"wrap", "^\"soft")));
    }

    private static void badNumbers() {
        String[][] texture = {{"side\":1", "side\":^0"}, {"side\":1", "side\":^-1"}, {"side\":1", "side\":^3"},
            {"side\":1", "side\":^33"}, {"side\":1", "side\":^64"}, {"wrap\":0", "wrap\":^3"}, {"wrap\":0", "wrap\":^-1"},
            {"soft\":0", "soft\":^2"}, {"1,2,3", "1,^256,3"}, {"1,2,3", "^-1,2,3"}};
        spoil("textures", TEXTURE, texture);
        String[][] material = {{"[1,", "[^256,"}, {"4]", "^-1]"}, {"texture\":-1", "texture\":^-2"},
            {"texture\":-1", "texture\":^1"}, {"both\":0", "both\":^2"}, {"both\":0", "both\":^-1"}};
        spoil("materials", MATERIAL, material);
        String[][] mesh = {{"material\":0", "material\":^-1"}, {"material\":0", "material\":^1"},
            {"[1,2,3]", "[1,2,^1048577]"}, {"[1,2,3]", "[1,^-1048577,3]"}, {"s\":[0,0,0],\"p", "s\":[0,^65537,0],\"p"},
            {"s\":[0,0,0],\"p", "s\":[^-65537,0,0],\"p"}, {"[0,0],", "[^131073,0],"}, {"[0,0],", "[0,^-131073],"},
            {"faces\":[0", "faces\":[^1"}, {"faces\":[0", "faces\":[^-1"}};
        spoil("meshes", MESH, mesh);
        String[][] node = {{"parent\":-1", "parent\":^0"}, {"parent\":-1", "parent\":^-2"}, {"mesh\":-1", "mesh\":^1"},
            {"mesh\":-1", "mesh\":^-2"}, {"move\":[0", "move\":[^4194305"}, {"move\":[0", "move\":[^-4194305"},
            {"turn\":[0", "turn\":[^1048577"}, {"size\":[0", "size\":[^-1048577"},
            {"move\":[0", "move\":[^18446744073709551616"}, {"move\":[0", "move\":[^4294967296"},
            {"move\":[0", "move\":[^-340282366920938463463374607431768211456"}};
        spoil("nodes", NODE, node);
        String[][] track = {{"node\":0", "node\":^1"}, {"node\":0", "node\":^-1"}, {"what\":0", "what\":^3"},
            {"how\":0", "how\":^3"}, {"times\":[0]", "times\":[^-1]"}, {"times\":[0]", "times\":[^1000001]"},
            {"times\":[0]", "times\":[5,^5]"}, {"times\":[0]", "times\":[5,^4]"}, {"times\":[0]", "times\":[1000000,^1000001]"},
            {"values\":[0", "values\":[^4194305"}};
        spoil("tracks", TRACK, track);
        spoil("tracks", TRACK.replace("what\":0", "what\":1"), new String[][] {{"values\":[0", "values\":[^1048577"}});
        spoil("tracks", TRACK.replace("what\":0", "what\":2"), new String[][] {{"values\":[0", "values\":[^-1048577"}});
        wrong(2, "{\"camera\":" + CAMERA.replace("8}", "^7}") + "}");
        wrong(2, "{\"camera\":" + CAMERA.replace("8}", "^513}") + "}");
        wrong(2, "{\"light\":" + LIGHT.replace("[0,", "[^65537,") + "}");
        wrong(2, "{\"light\":" + LIGHT.replace("0}", "^65537}") + "}");
        wrong(2, "{\"light\":" + LIGHT.replace("0}", "^-1}") + "}");
        wrong(2, "{\"nodes\":[" + NODE.replace("mesh\":-1", "mesh\":^0") + "]}");
        wrong(2, list("nodes", NODE + "," + NODE.replace("parent\":-1", "parent\":^1")));
    }

    private static void spoil(String name, String thing, String[][] pairs) {
        for (String[] pair : pairs) {
            String spoilt = thing.replace(pair[0], pair[1]);
            wrong(2, behind(name, spoilt));
        }
    }

    private static void tooManyOrTooFew() {
        wrong(3, list("textures", Texts.repeat(TEXTURE, 8) + ",^" + TEXTURE));
        wrong(3, list("textures", Texts.repeat(TEXTURE, 8) + ", ^{x"));
        wrong(1, list("textures", Texts.repeat(TEXTURE, 8) + ",^"));
        wrong(1, list("textures", Texts.repeat(TEXTURE, 8) + ",^[{"));
        wrong(3, list("materials", Texts.repeat(MATERIAL, 16) + ",^{"));
        wrong(3, behind("meshes", Texts.repeat(MESH, 16) + ",^{"));
        wrong(3, list("nodes", Texts.nodes(48) + ",^{"));
        wrong(3, behind("tracks", Texts.repeat(TRACK, 32) + ",^{"));
        String[][] texture = {{"1,2,3", "1,2^"}, {"1,2,3", "^"}, {"1,2,3", "1,2,3,^4"}, {"1,2,3", "1,2,3,^-999999999999"}};
        spoilCount("textures", TEXTURE, texture);
        wrong(3, list("textures", TEXTURE.replace("side\":1", "side\":2").replace("1,2,3", "1,2,3^")));
        String[][] material = {{"[1,2,3,4]", "[1,2,3^]"}, {"[1,2,3,4]", "[1,2,3,4,^5]"}, {"[1,2,3,4]", "[^]"},
            {"[1,2,3,4]", "[1,2,3,4, ^256]"}};
        spoilCount("materials", MATERIAL, material);
        String[][] mesh = {{"[1,2,3]", "[^]"}, {"[1,2,3]", "[1,2^]"}, {"[1,2,3]", "[1,2,3,4^]"},
            {"[1,2,3]", "[" + Texts.repeat("0", 384) + ",^0]"}, {"s\":[0,0,0],\"p", "s\":[0,0^],\"p"},
            {"s\":[0,0,0],\"p", "s\":[0,0,0,^0],\"p"}, {"[0,0],", "[0^],"}, {"[0,0],", "[0,0,^0],"},
            {"faces\":[0,0,0]", "faces\":[0,0^]"}, {"faces\":[0,0,0]", "faces\":[^]"}, {"faces\":[0,0,0]", "faces\":[0,0,0,0^]"},
            {"faces\":[0,0,0]", "faces\":[" + Texts.repeat("0", 384) + ",^5]"}};
        spoilCount("meshes", MESH, mesh);
        String[][] node = {{"move\":[0,0,0]", "move\":[0,0,0,^0]"}, {"turn\":[0,0,0]", "turn\":[0,0^]"},
            {"turn\":[0,0,0]", "turn\":[0,0,0,^0]"}, {"size\":[0,0,0]", "size\":[^]"},
            {"size\":[0,0,0]", "size\":[0,0,0,^0,0,0]"}};
        spoilCount("nodes", NODE, node);
        StringBuilder times = new StringBuilder("0");
        for (int i = 1; i < 32; i++) {
            times.append(',').append(i);
        }
        String[][] track = {{"times\":[0]", "times\":[^]"}, {"times\":[0]", "times\":[" + times + ",^3]"},
            {"values\":[0,0,0]", "values\":[0,0^]"}, {"values\":[0,0,0]", "values\":[0,0,0,^0]"}};
        spoilCount("tracks", TRACK, track);
        wrong(1, behind("tracks", TRACK.replace("times\":[0]", "times\":[" + times + ",^]")));
        wrong(1, behind("tracks", TRACK.replace("times\":[0]", "times\":[" + times + ",^-]")));
        wrong(1, behind("tracks", TRACK.replace("times\":[0]", "times\":[" + times + " ^5]")));
        wrong(3, "{\"camera\":" + CAMERA.replace("move\":[0,0,0]", "move\":[0^]") + "}");
        wrong(3, "{\"camera\":" + CAMERA.replace("move\":[0,0,0]", "move\":[0,0,0,^0]") + "}");
        wrong(3, "{\"camera\":" + CAMERA.replace("turn\":[0,0,0]", "turn\":[0,0,0,^0]") + "}");
        wrong(3, "{\"light\":" + LIGHT.replace("[0,0,0]", "[0,0,0 , ^99999999]") + "}");
        wrong(1, "{\"light\":" + LIGHT.replace("[0,0,0]", "[0,0^}") + "}");
    }

    private static void spoilCount(String name, String thing, String[][] pairs) {
        for (String[] pair : pairs) {
            wrong(3, behind(name, thing.replace(pair[0], pair[1])));
        }
    }

    /** A wrong load leaves the scene alone; a right one starts it anew, but keeps what the document says. */
    private static void whatStays() {
        box = new Fresh(16, 16);
        String scene = Texts.scene("", Texts.material(255, 0, 0, 255, -1, 0), Texts.square(0, 65536),
            Texts.node(-1, 0, 0, 0, 262144), Texts.track(0, 0, 1, "0,10", "0,0,131072,0,0,262144"));
        again(scene, 1);
        Due.is("no track has set anything", box.world(0, 2, 3), 262144);
        box.time(5);
        Due.is("time has", box.world(0, 2, 3), 196608);
        box.hide(0, true);
        box.camera(2, 64, 0, 0);
        Due.is("a wrong load", Due.load(box, "{x}"), Due.ILLEGAL_ARGUMENT);
        Due.is("count(3) stays", box.count(3), 1);
        Due.is("count(5) stays", box.count(5), 5);
        Due.is("the world stays", box.world(0, 2, 3), 196608);
        Due.is("it is still hidden", box.pick(8, 8), -1);
        box.hide(0, false);
        Due.is("pick", box.pick(8, 7), 0);
        Due.is("picked", box.picked(), 0);
        box.pick(7, 8);
        Due.is("picked", box.picked(), 1);
        box.hide(0, true);
        box.background(9, 8, 7);
        Due.drawAll(box);
        Due.is("a picture of the background", box.pixel(3, 3), 9 * 65536 + 8 * 256 + 7);
        int size = box.file();
        box.begin();
        box.tile(0);
        again(scene, 1);
        Due.is("error is gone", box.error(0), 0);
        Due.is("time is 0", box.count(5), 0);
        Due.is("what was picked stays", box.picked(), 1);
        Due.is("the file stays", box.byteAt(size - 1), 130);
        Due.is("and no more", box.byteAt(size), -1);
        Due.is("the picture stays", box.tile(0), false);
        Due.is("and goes on", box.tile(1), true);
        Due.is("as it was", box.pixel(9, 1), 9 * 65536 + 8 * 256 + 7);
        Due.is("no node is hidden", box.pick(8, 7), 0);
        Due.drawAll(box);
        Due.is("the focus is the first one", box.pixel(0, 0), 255 * 65536);
        again("{}", 0);
        Due.is("count(2)", box.count(2), 0);
        Due.is("nothing is seen", box.pick(8, 7), -1);
    }

    /** What the tape had behind its end is no part of the text. */
    private static void behindTheEnd() {
        String text = "{\"camera\": {\"move\":[0,0,0],\"turn\":[0,0,0],\"focus\":88} } ";
        for (int n = 0; n <= text.length(); n++) {
            box = new Fresh(8, 8);
            Due.tape(box, text);
            box.end(n);
            boolean whole = n >= text.length() - 1;
            Due.is("load of " + n, Due.load(box), whole ? 0 : Due.ILLEGAL_ARGUMENT);
            Due.is("error(0) of " + n, box.error(0), whole ? 0 : 1);
            int quote = text.lastIndexOf('"', n - 1);
            boolean inWord = n > 0 && text.substring(0, n).replaceAll("[^\"]", "").length() % 2 == 1;
            Due.is("error(1) of " + n, box.error(1), whole ? 0 : inWord ? quote : n);
        }
    }

    /** Scenes take turns in the same memory: nothing of an earlier one is left. */
    private static void overAndOver() {
        box = new Fresh(16, 16);
        for (int i = 0; i < 6; i++) {
            again(Texts.redSquare(), 1);
            Due.is("it is seen", box.pick(8, 8), 0);
            Due.is("hide", box.hide(0, true), true);
            Due.is("it is not seen", box.pick(8, 8), -1);
            box.time(77 + i);
            if (i % 2 == 0) {
                box.begin();
            }
        }
    }

    public static void main(String[] args) {
        behindTheEnd();
        overAndOver();
        rightOnes();
        noToken();
        badNumbers();
        tooManyOrTooFew();
        whatStays();
        Due.close("TextTest");
    }
}

import java.util.Random;

/** Texts of scenes made by chance: right ones, and ones with something wrong. */
final class SceneMaker {
    private static final String[] BITS = {"{", "}", "[", "]", ":", ",", "\"", "-", "0", "7", "-1", "99999999999999999999",
        "1048577", "4194305", " ", "\n", "\t", "\r", "\u0000", "\u00ff", "x", "\"side\"", "\"light\"", ",1", ",{", "{}",
        "[]", ",]", ",}", "-5", "00", "1000001", "65537", "256", "3", ",-", "\"mesh", ",\"camera\":", ".5", "e3"};
    private final Random chance;
    private final StringBuilder text = new StringBuilder();

    SceneMaker(Random chance) {
        this.chance = chance;
    }

    int below(int n) {
        return chance.nextInt(n);
    }

    int from(int low, int high) {
        return low + chance.nextInt(high - low + 1);
    }

    boolean once(int in) {
        return chance.nextInt(in) == 0;
    }

    /** Within the reach; often near 0, sometimes at the very end. */
    int reach(int most) {
        switch (below(8)) {
            case 0: return most;
            case 1: return -most;
            case 2: return 0;
            case 3: return from(-most, most);
            default: return from(-most / 16, most / 16);
        }
    }

    private void space() {
        if (once(12)) {
            text.append(" \n\r\t".charAt(below(4)));
        }
    }

    private SceneMaker put(String token) {
        space();
        text.append(token);
        space();
        return this;
    }

    private void word(String name) {
        put("\"" + name + "\"").put(":");
    }

    private void number(String name, int n) {
        word(name);
        put(numberText(n));
    }

    private String numberText(int n) {
        String digits = Integer.toString(Math.abs(n));
        return (n < 0 || n == 0 && once(20) ? "-" : "") + (once(40) ? "00" : "") + digits;
    }

    private void numbers(String name, int... list) {
        word(name);
        put("[");
        for (int i = 0; i < list.length; i++) {
            if (i > 0) {
                put(",");
            }
            put(numberText(list[i]));
        }
        put("]");
    }

    String right() {
        text.setLength(0);
        int textures = below(3);
        int materials = from(1, 4);
        int meshes = from(1, 3);
        int nodes = below(5) == 0 ? from(0, 9) : from(1, 4);
        int tracks = nodes == 0 ? 0 : below(4);
        put("{");
        if (textures > 0 || once(2)) {
            list("textures", textures);
        }
        comma();
        list("materials", materials);
        put(",");
        list("meshes", meshes, materials, textures);
        if (nodes > 0) {
            put(",");
            list("nodes", nodes, meshes, 0);
        }
        if (tracks > 0) {
            put(",");
            list("tracks", tracks, nodes, 0);
        }
        if (once(3)) {
            put(",");
            word("camera");
            put("{");
            numbers("move", near(60000), near(60000), near(60000));
            put(",");
            numbers("turn", near(300), near(300), near(300));
            put(",");
            number("focus", once(4) ? from(8, 512) : from(8, 64));
            put("}");
        }
        if (once(3)) {
            put(",");
            word("light");
            put("{");
            numbers("toward", reach(65536), reach(65536), reach(65536));
            put(",");
            number("ambient", from(0, 65536));
            put("}");
        }
        put("}");
        return text.toString();
    }

    private void comma() {
        if (text.charAt(text.length() - 1) != '{' && text.toString().trim().length() > 1) {
            put(",");
        }
    }

    private int near(int most) {
        return once(4) ? 0 : from(-most, most);
    }

    private void list(String name, int n) {
        list(name, n, 0, n);
    }

    private int textureCount;

    private void list(String name, int n, int others, int textures) {
        if (name.equals("textures")) {
            textureCount = n;
        }
        word(name);
        put("[");
        for (int i = 0; i < n; i++) {
            if (i > 0) {
                put(",");
            }
            put("{");
            switch (name) {
                case "textures": texture(); break;
                case "materials": material(); break;
                case "meshes": mesh(others); break;
                case "nodes": node(i, others); break;
                default: track(others); break;
            }
            put("}");
        }
        put("]");
    }

    private void texture() {
        int side = 1 << (once(12) ? 4 : below(4));
        number("side", side);
        put(",");
        number("wrap", below(3));
        put(",");
        number("soft", below(2));
        put(",");
        int[] texels = new int[3 * side * side];
        for (int i = 0; i < texels.length; i++) {
            texels[i] = once(3) ? 255 : below(256);
        }
        numbers("texels", texels);
    }

    private void material() {
        numbers("colour", below(256), below(256), from(128, 255), once(2) ? 255 : below(255));
        put(",");
        number("texture", from(-1, textureCount - 1));
        put(",");
        number("both", once(4) ? 0 : 1);
    }

    private void mesh(int materials) {
        number("material", below(materials));
        put(",");
        int points = from(3, 8);
        int size = once(6) ? 1048576 : once(3) ? 200000 : 70000;
        int[] p = new int[3 * points];
        int[] normals = new int[3 * points];
        int[] places = new int[2 * points];
        for (int i = 0; i < 3 * points; i++) {
            p[i] = from(-size, size);
            normals[i] = reach(65536);
        }
        for (int i = 0; i < 2 * points; i++) {
            places[i] = once(3) ? from(0, 1) * 65536 : from(-131072, 131072);
        }
        int[] faces = new int[3 * from(1, 6)];
        for (int i = 0; i < faces.length; i++) {
            faces[i] = below(points);
        }
        numbers("points", p);
        put(",");
        numbers("normals", normals);
        put(",");
        numbers("places", places);
        put(",");
        numbers("faces", faces);
    }

    private void node(int i, int meshes) {
        number("parent", once(2) ? -1 : from(-1, i - 1));
        put(",");
        number("mesh", once(6) ? -1 : below(meshes));
        put(",");
        boolean far = once(12);
        numbers("move", far ? reach(4194304) : near(120000), far ? reach(4194304) : near(120000),
            far ? reach(4194304) : from(0, 300000));
        put(",");
        numbers("turn", once(2) ? 0 : reach(1048576), once(2) ? 0 : from(-4096, 4096), once(2) ? 0 : from(-4096, 4096));
        put(",");
        numbers("size", size(), size(), size());
    }

    private int size() {
        return once(3) ? reach(1048576) : once(2) ? 65536 : from(-131072, 131072);
    }

    private void track(int nodes) {
        number("node", below(nodes));
        put(",");
        int what = below(3);
        number("what", what);
        put(",");
        number("how", below(3));
        put(",");
        int keys = from(1, 4);
        int[] times = new int[keys];
        int[] values = new int[3 * keys];
        int t = once(2) ? 0 : below(200);
        for (int i = 0; i < keys; i++) {
            times[i] = t;
            t += once(10) ? 200000 : from(1, 300);
        }
        for (int i = 0; i < 3 * keys; i++) {
            values[i] = what == 0 ? near(200000) : what == 1 ? from(-4096, 4096) : size();
        }
        numbers("times", times);
        put(",");
        numbers("values", values);
    }

    /** So small and so near that cutting rounds corners to and fro across the sides. */
    String tiny() {
        int size = from(2, 300);
        int focus = once(2) ? 512 : from(8, 512);
        StringBuilder points = new StringBuilder();
        StringBuilder faces = new StringBuilder();
        StringBuilder nodes = new StringBuilder();
        for (int i = 0; i < 16; i++) {
            points.append(i == 0 ? "" : ",").append(from(-size, size)).append(",").append(from(-size, size)).append(",")
                .append(once(2) ? 0 : from(-size, size));
        }
        for (int i = 0; i < 192; i++) {
            faces.append(i == 0 ? "" : ",").append(below(16));
        }
        for (int i = 0; i < 4; i++) {
            nodes.append(i == 0 ? "" : ",").append(Texts.node(-1, 0, from(-size, size), from(-size, size),
                4096 + from(-size, 2 * size)));
        }
        String mesh = "{\"material\":0,\"points\":[" + points + "],\"normals\":[" + Texts.repeat("0,0,-65536", 16)
            + "],\"places\":[" + Texts.repeat("0,65536,65536,9", 8) + "],\"faces\":[" + faces + "]}";
        String scene = Texts.scene(Texts.texture(2, 0, 0, "1,2,3,40,50,60,70,80,90,200,210,220"),
            Texts.material(250, 255, 255, once(2) ? 255 : 128, 0, below(2)), mesh, nodes.toString(), "");
        return scene.substring(0, scene.length() - 1) + ",\"camera\":{\"move\":[0,0,0],\"turn\":[0,0,0],\"focus\":"
            + focus + "}}";
    }

    /** Large faces across the corners of a picture of 16 by 16, which leave seven or eight corners when they are cut. */
    String large() {
        return across(32, Texts.node(-1, 0, 0, 0, 262144) + ","
            + Texts.node(-1, 0, from(-5000, 5000), from(-5000, 5000), from(150000, 300000)));
    }

    /** As many nodes with as many of such faces as there can be. */
    String most() {
        StringBuilder nodes = new StringBuilder();
        for (int i = 0; i < 48; i++) {
            nodes.append(i == 0 ? "" : ",").append(Texts.node(-1, 0, from(-5000, 5000), from(-5000, 5000),
                from(200000, 300000)));
        }
        return across(128, nodes.toString());
    }

    private String across(int faceCount, String nodes) {
        StringBuilder points = new StringBuilder();
        StringBuilder faces = new StringBuilder();
        int[][] around = {{0, -15}, {-20, 5}, {38, 23}};
        for (int i = 0; i < 96; i++) {
            int[] at = around[i % 3];
            int tilt = i % 3 == 0 ? 200000 : 900000;
            points.append(i == 0 ? "" : ",").append(at[0] * from(5800, 7200) + from(-9000, 9000)).append(",")
                .append(at[1] * from(5800, 7200) + from(-9000, 9000)).append(",").append(once(3) ? 0 : from(-tilt, tilt / 8));
        }
        for (int i = 0; i < 3 * faceCount; i++) {
            faces.append(i == 0 ? "" : ",").append(i % 96);
        }
        String mesh = "{\"material\":0,\"points\":[" + points + "],\"normals\":[" + Texts.repeat("0,0,-65536", 96)
            + "],\"places\":[" + Texts.repeat("0,0,65536,0,0,65536", 32) + "],\"faces\":[" + faces + "]}";
        return Texts.scene(Texts.texture(2, 0, 1, "1,2,3,40,50,60,70,80,90,200,210,220"),
            Texts.material(255, 255, 255, 40, 0, 1), mesh, nodes, "");
    }

    /** Faces that a picture of 8 by 8 with focus 512 cuts to nine corners, or nearly so. */
    String nine(int nodeCount) {
        int[][] known = {{107, -107, 6851, 84, 125, 4102, -73, -64, 4094}, {-67, 73, 4100, 118, -113, 4084, -99, -99, 6337}};
        StringBuilder points = new StringBuilder();
        StringBuilder faces = new StringBuilder();
        for (int i = 0; i < 42; i++) {
            int[] like = known[below(2)];
            for (int k = 0; k < 9; k++) {
                points.append(i + k == 0 ? "" : ",").append(like[k] + (once(3) ? from(-3, 3) : 0));
            }
        }
        for (int i = 0; i < 384; i++) {
            faces.append(i == 0 ? "" : ",").append(i % 126);
        }
        String mesh = "{\"material\":0,\"points\":[" + points + "],\"normals\":[" + Texts.repeat("0,0,-65536", 126)
            + "],\"places\":[" + Texts.repeat("0,0,65536,0,0,65536", 42) + "],\"faces\":[" + faces + "]}";
        String scene = Texts.scene(Texts.texture(2, 0, 1, "1,2,3,40,50,60,70,80,90,200,210,220"),
            Texts.material(255, 255, 255, once(2) ? 255 : 9, 0, once(4) ? 0 : 1), mesh,
            Texts.repeat(Texts.node(-1, 0, 0, 0, 0), nodeCount), "");
        return scene.substring(0, scene.length() - 1) + ",\"camera\":{\"move\":[0,0,0],\"turn\":[0,0,0],\"focus\":512}}";
    }

    /** A right text with a few bytes taken out, put in, doubled or cut off. */
    String wrong() {
        StringBuilder spoilt = new StringBuilder(right());
        int times = from(1, 3);
        for (int i = 0; i < times && spoilt.length() > 1; i++) {
            int at = below(spoilt.length());
            switch (below(6)) {
                case 0: spoilt.deleteCharAt(at); break;
                case 1: spoilt.setLength(at); break;
                case 2: spoilt.insert(at, BITS[below(BITS.length)]); break;
                case 3: spoilt.replace(at, Math.min(spoilt.length(), at + from(1, 3)), BITS[below(BITS.length)]); break;
                case 4: spoilAtSign(spoilt, at, ']'); break;
                default: spoilAtSign(spoilt, at, ','); break;
            }
        }
        return spoilt.toString();
    }

    private void spoilAtSign(StringBuilder spoilt, int from, char sign) {
        int at = spoilt.indexOf(String.valueOf(sign), from);
        if (at >= 0) {
            spoilt.insert(once(2) ? at : at + 1, BITS[below(BITS.length)]);
        }
    }
}

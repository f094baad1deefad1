import java.math.BigInteger;

/** The sentences on THE TEXT that name a boundary: for each number, list, part, word and byte of a scene. */
public final class TextBoundsTest {
    /** One of each thing: its name, then its parts. */
    private static final String[][] THINGS = {
        {"textures", "side", "1", "wrap", "0", "soft", "0", "texels", "[1,2,3]"},
        {"materials", "colour", "[1,2,3,4]", "texture", "-1", "both", "0"},
        {"meshes", "material", "0", "points", "[1,2,3]", "normals", "[0,0,0]", "places", "[0,0]", "faces", "[0,0,0]"},
        {"nodes", "parent", "-1", "mesh", "-1", "move", "[0,0,0]", "turn", "[0,0,0]", "size", "[0,0,0]"},
        {"tracks", "node", "0", "what", "0", "how", "0", "times", "[0]", "values", "[0,0,0]"},
        {"camera", "move", "[0,0,0]", "turn", "[0,0,0]", "focus", "8"},
        {"light", "toward", "[0,0,0]", "ambient", "0"},
    };
    private static final int CAMERA = 5;
    private static final int[] MOST = {8, 16, 16, 48, 32};
    private static final String BLANKS = " \n\r\t";

    /** The byte that is wrong stands behind a caret (which is left out). */
    private static void wrong(int what, String marked) {
        int at = marked.indexOf('^');
        Fresh box = new Fresh(8, 8);
        String told = marked.length() > 400 ? "..." + marked.substring(Math.max(0, at - 60)) : marked;
        Due.is("load of " + told, Due.load(box, marked.replace("^", "")), Due.ILLEGAL_ARGUMENT);
        Due.is("error(0) of " + told, box.error(0), what);
        Due.is("error(1) of " + told, box.error(1), at);
    }

    private static void right(String text) {
        Fresh box = new Fresh(8, 8);
        String told = text.length() > 400 ? text.substring(0, 400) + "..." : text;
        Due.is("load of " + told, Due.load(box, text) != Due.ILLEGAL_ARGUMENT, true);
        Due.is("error(0) of " + told, box.error(0), 0);
        Due.is("error(1) of " + told, box.error(1), 0);
    }

    private static String joined(String[] thing, int from, int to) {
        StringBuilder parts = new StringBuilder();
        for (int i = from; i < to; i += 2) {
            parts.append(i == from ? "" : ",").append('"').append(thing[i]).append("\":").append(thing[i + 1]);
        }
        return parts.toString();
    }

    private static String thing(int kind) {
        return "{" + joined(THINGS[kind], 1, THINGS[kind].length) + "}";
    }

    private static String named(int kind, String inside) {
        return "\"" + THINGS[kind][0] + "\":" + (kind < CAMERA ? "[" + inside + "]" : inside);
    }

    /** All that a thing of that kind may refer to, once each, and then the kind's own list (or what is there for it). */
    private static String sceneWith(int kind, String inside) {
        StringBuilder text = new StringBuilder("{");
        for (int k = 0; k < kind; k++) {
            text.append(named(k, thing(k))).append(",");
        }
        return text + named(kind, inside) + "}";
    }

    /** A thing of that kind with some of its parts told otherwise: name, value, name, value .. */
    private static String other(int kind, String... changes) {
        String[] parts = THINGS[kind].clone();
        for (int c = 0; c < changes.length; c += 2) {
            for (int i = 1; i < parts.length; i += 2) {
                if (parts[i].equals(changes[c])) {
                    parts[i + 1] = changes[c + 1];
                }
            }
        }
        return "{" + joined(parts, 1, parts.length) + "}";
    }

    private static String list(String value, int n) {
        return "[" + Texts.repeat(value, n) + "]";
    }

    // ---- numbers

    /** "a number that its thing can't have, however long": each number, at both its ends and beyond them. */
    private static void numberBounds() {
        single(0, "wrap", 0, 2);
        single(0, "soft", 0, 1);
        each(0, "texels", 3, 0, 255);
        each(1, "colour", 4, 0, 255);
        single(1, "texture", -1, 0);
        single(1, "both", 0, 1);
        single(2, "material", 0, 0);
        each(2, "points", 3, -1048576, 1048576);
        each(2, "normals", 3, -65536, 65536);
        each(2, "places", 2, -131072, 131072);
        each(2, "faces", 3, 0, 0);
        single(3, "parent", -1, -1);
        single(3, "mesh", -1, 0);
        each(3, "move", 3, -4194304, 4194304);
        each(3, "turn", 3, -1048576, 1048576);
        each(3, "size", 3, -1048576, 1048576);
        single(4, "node", 0, 0);
        single(4, "what", 0, 2);
        single(4, "how", 0, 2);
        each(4, "times", 1, 0, 1000000);
        each(4, "values", 3, -4194304, 4194304);
        each(5, "move", 3, -4194304, 4194304);
        each(5, "turn", 3, -1048576, 1048576);
        single(5, "focus", 8, 512);
        each(6, "toward", 3, -65536, 65536);
        single(6, "ambient", 0, 65536);
    }

    private static void single(int kind, String part, int low, int high) {
        ends(kind, part, "", "", low, high);
    }

    private static void each(int kind, String part, int count, int low, int high) {
        for (int i = 0; i < count; i++) {
            String before = "[" + (i == 0 ? "" : Texts.repeat("0", i) + ",");
            String behind = (i == count - 1 ? "" : "," + Texts.repeat("0", count - 1 - i)) + "]";
            ends(kind, part, before, behind, low, high);
        }
    }

    private static void ends(int kind, String part, String before, String behind, int low, int high) {
        String[] fit = {"" + low, "" + high, padded(low), padded(high)};
        for (String n : fit) {
            right(sceneWith(kind, other(kind, part, before + n + behind)));
        }
        BigInteger round = BigInteger.ONE.shiftLeft(32);
        BigInteger long1 = BigInteger.ONE.shiftLeft(64);
        BigInteger least = BigInteger.valueOf(low);
        BigInteger most = BigInteger.valueOf(high);
        String[] beyond = {"" + (low - 1L), "" + (high + 1L), padded(high + 1), least.add(round).toString(),
            least.subtract(round).toString(), most.add(long1).toString(), most.subtract(long1).toString(), "9".repeat(70),
            "-" + "9".repeat(70), "2147483647", "-2147483648", "2147483648"};
        for (String n : beyond) {
            wrong(2, sceneWith(kind, other(kind, part, before + "^" + n + behind)));
        }
    }

    private static String padded(int n) {
        return (n < 0 ? "-" : "") + "0".repeat(30) + Math.abs((long) n);
    }

    /** "A TEXTURE has a SIDE 1, 2, 4, 8, 16 or 32". */
    private static void sides() {
        for (int side = -2; side <= 65; side++) {
            boolean is = side == 1 || side == 2 || side == 4 || side == 8 || side == 16 || side == 32;
            if (is) {
                right(sceneWith(0, other(0, "side", "" + side, "texels", list("9", 3 * side * side))));
            } else {
                wrong(2, sceneWith(0, other(0, "side", "^" + side)));
            }
        }
        wrong(2, sceneWith(0, other(0, "side", "^4294967297")));
        wrong(2, sceneWith(0, other(0, "side", "^-2147483648")));
    }

    /** Keys' "3 numbers each, which the node can have": a turn or a size less than a move. */
    private static void valuesByWhat() {
        int[] most = {4194304, 1048576, 1048576};
        for (int what = 0; what < 3; what++) {
            for (int i = 0; i < 3; i++) {
                String zeros = "0,".repeat(i);
                String more = ",0".repeat(2 - i) + "]";
                for (int sign = -1; sign <= 1; sign += 2) {
                    int end = sign * most[what];
                    right(sceneWith(4, other(4, "what", "" + what, "values", "[" + zeros + end + more)));
                    wrong(2, sceneWith(4, other(4, "what", "" + what, "values", "[" + zeros + "^" + (end + sign) + more)));
                }
            }
        }
    }

    /** "a time that does not grow, too". */
    private static void growingTimes() {
        String nine = list("0", 9);
        right(sceneWith(4, other(4, "times", "[0,1,2]", "values", nine)));
        right(sceneWith(4, other(4, "times", "[0,999999,1000000]", "values", nine)));
        wrong(2, sceneWith(4, other(4, "times", "[0,^0,2]", "values", nine)));
        wrong(2, sceneWith(4, other(4, "times", "[0,^-0,2]", "values", nine)));
        wrong(2, sceneWith(4, other(4, "times", "[0,2,^2]", "values", nine)));
        wrong(2, sceneWith(4, other(4, "times", "[0,2,^1]", "values", nine)));
        wrong(2, sceneWith(4, other(4, "times", "[0,1000000,^1000001]", "values", nine)));
        wrong(2, sceneWith(4, other(4, "times", "[0,1000000,^1000000]", "values", nine)));
    }

    /** "a reference to what is not before it in the text": none of its kind, one too far, itself. */
    private static void references() {
        wrong(2, "{" + named(1, other(1, "texture", "^0")) + "}");
        wrong(2, "{\"textures\":[]," + named(1, other(1, "texture", "^0")) + "}");
        wrong(2, "{" + named(2, other(2, "material", "^0")) + "}");
        wrong(2, "{\"materials\":[]," + named(2, other(2, "material", "^0")) + "}");
        wrong(2, "{" + named(3, other(3, "mesh", "^0")) + "}");
        wrong(2, "{" + named(4, other(4, "node", "^0")) + "}");
        wrong(2, "{\"nodes\":[]," + named(4, other(4, "node", "^0")) + "}");
        String two = "{" + named(0, thing(0) + "," + thing(0)) + ",";
        right(two + named(1, other(1, "texture", "1")) + "}");
        wrong(2, two + named(1, other(1, "texture", "^2")) + "}");
        String points = other(2, "points", list("0", 6), "normals", list("0", 6), "places", list("0", 4), "faces", "[0,1,%1]");
        right(sceneWith(2, points.replace("%", "")));
        wrong(2, sceneWith(2, points.replace("%1", "^2")));
        right(sceneWith(3, thing(3) + "," + other(3, "parent", "0") + "," + other(3, "parent", "1")));
        wrong(2, sceneWith(3, other(3, "parent", "^0") + "," + thing(3)));
        wrong(2, sceneWith(3, thing(3) + "," + other(3, "parent", "^1") + "," + thing(3)));
        wrong(2, sceneWith(3, thing(3) + "," + other(3, "parent", "^2") + "," + thing(3)));
    }

    // ---- lists

    /** "a number more than the list can have, whatever its value", "or, at the list's ], fewer than there must be". */
    private static void listBounds() {
        for (int side = 1; side <= 32; side *= 2) {
            listIs(0, "texels", 3 * side * side, 1, "side", "" + side);
        }
        listIs(1, "colour", 4, 1);
        listIs(2, "points", 384, 3, "normals", list("0", 384), "places", list("0", 256));
        for (int n = 1; n <= 128; n = n == 1 ? 2 : n == 2 ? 127 : n + 1) {
            String[] more = {"points", list("0", 3 * n), "normals", list("0", 3 * n), "places", list("0", 2 * n)};
            listIs(2, "normals", 3 * n, 1, more);
            listIs(2, "places", 2 * n, 1, more);
            listIs(2, "faces", 384, 3, more);
        }
        listIs(3, "move", 3, 1);
        listIs(3, "turn", 3, 1);
        listIs(3, "size", 3, 1);
        for (int keys = 1; keys <= 32; keys = keys == 1 ? 2 : keys == 2 ? 31 : keys + 1) {
            listIs(4, "values", 3 * keys, 1, "times", growing(keys));
        }
        listIs(5, "move", 3, 1);
        listIs(5, "turn", 3, 1);
        listIs(6, "toward", 3, 1);
    }

    private static String growing(int n) {
        StringBuilder times = new StringBuilder("[0");
        for (int i = 1; i < n; i++) {
            times.append(",").append(i);
        }
        return times + "]";
    }

    /** A list that can have so many numbers, and must have them all, or whole ones of three of them. */
    private static void listIs(int kind, String part, int most, int unit, String... more) {
        right(scene(kind, part, list("0", most), more));
        wrong(3, scene(kind, part, "[^]", more));
        wrong(1, scene(kind, part, "[^,0]", more));
        for (int less = 1; less < 4 && less < most; less++) {
            String fewer = Texts.repeat("0", most - less);
            if (unit == 3 && less == 3) {
                fewer = Texts.repeat("0", 3);
                right(scene(kind, part, "[" + fewer + "]", kind == 2 && part.equals("points") ? new String[0] : more));
            } else {
                wrong(3, scene(kind, part, "[" + fewer + "^]", more));
            }
            wrong(1, scene(kind, part, "[" + fewer + ",^]", more));
            wrong(1, scene(kind, part, "[" + fewer + "^}", more));
        }
        full(kind, part, Texts.repeat("0", most), more);
    }

    private static String scene(int kind, String part, String value, String[] more) {
        String[] changes = new String[more.length + 2];
        System.arraycopy(more, 0, changes, 0, more.length);
        changes[more.length] = part;
        changes[more.length + 1] = value;
        return sceneWith(kind, other(kind, changes));
    }

    /** "the comma before it is none that is wrong: anything else behind that comma is 1". */
    private static void full(int kind, String part, String all, String... more) {
        for (String n : new String[] {"0", "-1", "007", "9".repeat(50), "-" + "9".repeat(50), "1048577", "0,0,0", "5}"}) {
            wrong(3, scene(kind, part, "[" + all + ",^" + n + "]", more));
            wrong(3, scene(kind, part, "[" + all + " ,\n\t^" + n + " ]", more));
        }
        for (String none : new String[] {"]", "-]", "-x]", ",0]", "{]", "}]", "[]", ":]", "\"side\"]", "x]", "+1]", "\u00ff]"}) {
            wrong(1, scene(kind, part, "[" + all + ",^" + none, more));
        }
        String open = scene(kind, part, "[" + all + ",^", more);
        wrong(1, open.substring(0, open.indexOf('^') + 1));
        String unclosed = scene(kind, part, "[" + all + "^", more);
        wrong(1, unclosed.substring(0, unclosed.indexOf('^') + 1));
    }

    /** 1 to 32 keys: their times must be in order, so that they have a test of their own. */
    private static void timesBounds() {
        right(sceneWith(4, other(4, "times", growing(32), "values", list("0", 96))));
        right(sceneWith(4, other(4, "times", "[7]", "values", list("0", 3))));
        wrong(3, sceneWith(4, other(4, "times", "[^]")));
        String all = growing(32).substring(1, growing(32).length() - 1);
        full(4, "times", all);
        wrong(3, sceneWith(4, other(4, "times", "[" + all + ",^31]")));
    }

    /** "a thing's { .. more than the list can have": at most 8, 16, 16, 48, 32. */
    private static void thingBounds() {
        for (int kind = 0; kind < CAMERA; kind++) {
            String all = Texts.repeat(thing(kind), MOST[kind]);
            Fresh box = new Fresh(8, 8);
            Due.load(box, sceneWith(kind, all));
            Due.is("count(" + kind + ")", box.count(kind), MOST[kind]);
            right(sceneWith(kind, ""));
            wrong(3, sceneWith(kind, all + ",^" + thing(kind)));
            wrong(3, sceneWith(kind, all + " , ^{]"));
            for (String none : new String[] {"", "]", "}", "0", ",{", "[{", "\"side\"", "x{", ":"}) {
                wrong(1, sceneWith(kind, all + ",^" + none));
            }
            wrong(1, sceneWith(kind, all + "^" + thing(kind)));
            wrong(1, sceneWith(kind, "^0"));
            wrong(1, sceneWith(kind, thing(kind) + ",^]"));
        }
    }

    // ---- parts

    /** "Their parts, in this order, all of them there"; "where no other part of { } can come a comma is: 1". */
    private static void partsInOrder() {
        for (int kind = 0; kind < THINGS.length; kind++) {
            String[] t = THINGS[kind];
            int n = t.length;
            right(sceneWith(kind, thing(kind)));
            wrong(1, sceneWith(kind, "{^}"));
            wrong(1, sceneWith(kind, "{" + joined(t, 1, n) + "^,}"));
            wrong(1, sceneWith(kind, "{" + joined(t, 1, n) + "^,\"" + t[n - 2] + "\":" + t[n - 1] + "}"));
            wrong(1, sceneWith(kind, "{^," + joined(t, 1, n) + "}"));
            for (int i = 1; i < n; i += 2) {
                String before = "{" + joined(t, 1, i) + (i == 1 ? "" : ",");
                String behind = joined(t, i + 2, n) + "}";
                if (i + 2 < n) {
                    wrong(1, sceneWith(kind, before + "^" + behind));
                    wrong(1, sceneWith(kind, "{" + joined(t, 1, i + 2) + ",^" + joined(t, i, n) + "}"));
                    wrong(1, sceneWith(kind, "{" + joined(t, 1, i + 2) + "^" + behind));
                    wrong(1, sceneWith(kind, "{" + joined(t, 1, i + 2) + ",^}"));
                }
                wrong(1, sceneWith(kind, before + "^}"));
                String part = "\"" + t[i] + "\"";
                wrong(1, sceneWith(kind, before + part + "^" + t[i + 1] + "}"));
                wrong(1, sceneWith(kind, before + part + ":^\"" + t[i] + "\"}"));
                wrong(1, sceneWith(kind, before + "^" + t[i] + ":" + t[i + 1] + "}"));
                boolean many = t[i + 1].charAt(0) == '[';
                wrong(1, sceneWith(kind, before + part + ":^" + (many ? "0" : "[0]") + "}"));
            }
        }
    }

    /** "each of these once at most and in this order, an empty list or the first camera and light where one is missing". */
    private static void sceneParts() {
        String[] parts = new String[7];
        for (int kind = 0; kind < 7; kind++) {
            parts[kind] = named(kind, kind < CAMERA ? "" : thing(kind));
        }
        for (int some = 0; some < 128; some++) {
            StringBuilder text = new StringBuilder();
            for (int kind = 0; kind < 7; kind++) {
                if ((some >> kind & 1) == 1) {
                    text.append(text.length() == 0 ? "" : ",").append(parts[kind]);
                }
            }
            right("{" + text + "}");
            boolean light = (some & 64) != 0;
            wrong(1, "{" + text + (some == 0 ? "^,}" : light ? "^,}" : ",^}"));
        }
        for (int a = 0; a < 7; a++) {
            for (int b = 0; b <= a; b++) {
                wrong(1, "{" + parts[a] + (a == 6 ? "^," : ",^") + parts[b] + "}");
            }
        }
    }

    // ---- tokens

    /** "may have bytes 32, 10, 13, 9 before and behind them; there is nothing else". */
    private static void everyByte() {
        for (int b = 0; b < 256; b++) {
            char c = (char) b;
            if (c == '^') {
                // The mark itself; it is as any other sign that is no token.
                continue;
            }
            boolean blank = BLANKS.indexOf(c) >= 0;
            String text = "{\"nodes\":[]}";
            for (int at : new int[] {0, 1, 8, 9, 10, 11, 12}) {
                String before = text.substring(0, at);
                String behind = text.substring(at);
                if (blank) {
                    right(before + c + behind);
                } else if (at == 8 && c == ':' || at == 9 && c == '[' || at == 11 && c == '}' || at == 10 && c == ']') {
                    wrong(1, before + c + "^" + behind);
                } else if (!(at == 0 && c == '{' || at == 1 && c == '}' || at == 10 && c == '{' || at == 11 && c == ',')) {
                    wrong(1, before + "^" + c + behind);
                }
            }
            if (c != 'o') {
                wrong(1, "{^\"n" + c + "des\":[]}");
            }
            if (c != '"') {
                wrong(1, "{^\"nodes" + c + "\":[]}");
            }
            wrong(1, "{^\"" + c + "nodes\":[]}");
        }
    }

    /** "a NUMBER (- or not, then one digit or more, as many as there are, 0s ahead, too)". */
    private static void numberTokens() {
        String[] zeros = {"0", "-0", "000", "-000", "0".repeat(300), "-" + "0".repeat(300)};
        for (String zero : zeros) {
            right("{\"light\":{\"toward\":[0,0,0],\"ambient\":" + zero + "}}");
        }
        String[] none = {"-", "--0", "+0", "- 0", "-\n0", ".0", "x", "\"0\"", "-x", "e0", "'0'", "-}"};
        for (String n : none) {
            wrong(1, "{\"light\":{\"toward\":[0,0,0],\"ambient\":^" + n + "}}");
        }
        String[] behind = {"-", "-1", ".", ".0", "e1", " 0", "\n0", "x", "\"", "/", ":", "{", "["};
        for (String more : behind) {
            String gap = more.startsWith(" ") || more.startsWith("\n") ? more.substring(0, 1) : "";
            wrong(1, "{\"light\":{\"toward\":[0,0,0],\"ambient\":1" + gap + "^" + more.substring(gap.length()) + "}}");
        }
    }

    /** "at the text's end, if one is missing: 0 without any text; a word that is not closed .. at its quote". */
    private static void everyBeginning() {
        StringBuilder whole = new StringBuilder("{");
        for (int kind = 0; kind < 7; kind++) {
            whole.append(kind == 0 ? "" : " ,").append(named(kind, thing(kind)));
        }
        String text = whole + "}";
        int quote = -1;
        for (int n = 0; n < text.length(); n++) {
            String begun = text.substring(0, n);
            int at = quote >= 0 ? quote : begun.endsWith("-") ? n - 1 : n;
            wrong(1, begun.substring(0, at) + "^" + begun.substring(at));
            if (text.charAt(n) == '"') {
                quote = quote >= 0 ? -1 : n;
            }
        }
        right(text);
        right(text + BLANKS);
        wrong(1, text + BLANKS + "^" + text);
        wrong(1, text + "^,");
    }

    /** "from the left on, at the first token that is wrong", whatever comes behind it. */
    private static void theFirstOne() {
        wrong(2, sceneWith(0, other(0, "side", "^3", "texels", "[]")));
        wrong(2, sceneWith(0, "{\"side\":^3x"));
        wrong(2, sceneWith(1, other(1, "colour", "[^256]")));
        wrong(3, sceneWith(1, other(1, "colour", "[1^]", "texture", "9")));
        wrong(3, sceneWith(1, other(1, "colour", "[1,2,3,4,^256]", "texture", "9")));
        wrong(2, sceneWith(1, other(1, "colour", "[1,2,3,^256,5]")));
        wrong(1, "{\"light\":{\"toward\":[0,^x,65537]}}");
        wrong(2, "{\"light\":{\"toward\":[0,^65537,x]}}");
        wrong(2, "{\"light\":{\"toward\":[0,^65537x");
        wrong(2, "{\"light\":{\"toward\":[0,^65537");
        wrong(2, sceneWith(3, other(3, "parent", "^0", "mesh", "7") + ",{"));
        wrong(1, "{\"nodes\":[{^\"mesh\":99}]}");
    }

    public static void main(String[] args) {
        numberBounds();
        sides();
        valuesByWhat();
        growingTimes();
        references();
        listBounds();
        timesBounds();
        thingBounds();
        partsInOrder();
        sceneParts();
        everyByte();
        numberTokens();
        everyBeginning();
        theFirstOne();
        Due.close("TextBoundsTest");
    }
}

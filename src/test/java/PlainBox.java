import java.util.ArrayList;
import java.util.Arrays;
import java.util.Comparator;
import java.util.HashMap;
import java.util.List;
import java.util.Map;
import java.util.NoSuchElementException;

/**
 * The document once more, in its plainest words and with no care for speed or room: what OrreryBox is held against.
 * It shares no code and, where that could be, no way of working with OrreryBox: tokens are looked up in a table of
 * what a scene is made of, every pixel asks every piece, and runs are looked for at every earlier place.
 */
final class PlainBox {
    /** Parts of a scene, each with its own parts; [] tells a list of numbers. */
    private static final String[][] PARTS = {
        {"textures", "side", "wrap", "soft", "texels[]"},
        {"materials", "colour[]", "texture", "both"},
        {"meshes", "material", "points[]", "normals[]", "places[]", "faces[]"},
        {"nodes", "parent", "mesh", "move[]", "turn[]", "size[]"},
        {"tracks", "node", "what", "how", "times[]", "values[]"},
        {"camera", "move[]", "turn[]", "focus"},
        {"light", "toward[]", "ambient"},
    };
    private static final int[] MOST = {8, 16, 16, 48, 32, 1, 1};

    static final class Thing {
        final Map<String, long[]> parts = new HashMap<>();
        boolean hidden;

        long one(String name) {
            return parts.get(name)[0];
        }

        long[] all(String name) {
            return parts.get(name);
        }

        Thing copy() {
            Thing copied = new Thing();
            parts.forEach((name, numbers) -> copied.parts.put(name, numbers.clone()));
            copied.hidden = hidden;
            return copied;
        }
    }

    static final class Scene {
        final List<List<Thing>> things = new ArrayList<>();
        long now;

        Scene() {
            for (int i = 0; i < 7; i++) {
                things.add(new ArrayList<>());
            }
        }

        List<Thing> textures() {
            return things.get(0);
        }

        List<Thing> materials() {
            return things.get(1);
        }

        List<Thing> meshes() {
            return things.get(2);
        }

        List<Thing> nodes() {
            return things.get(3);
        }

        Thing camera() {
            return things.get(5).get(0);
        }

        Thing light() {
            return things.get(6).get(0);
        }

        Scene copy() {
            Scene copied = new Scene();
            for (int i = 0; i < 7; i++) {
                for (Thing thing : things.get(i)) {
                    copied.things.get(i).add(thing.copy());
                }
            }
            return copied;
        }

        Scene withFirstOnes() {
            if (things.get(5).isEmpty()) {
                Thing camera = new Thing();
                camera.parts.put("move", new long[3]);
                camera.parts.put("turn", new long[3]);
                camera.parts.put("focus", new long[] {32});
                things.get(5).add(camera);
            }
            if (things.get(6).isEmpty()) {
                Thing light = new Thing();
                light.parts.put("toward", new long[] {0, 0, -65536});
                light.parts.put("ambient", new long[] {16384});
                things.get(6).add(light);
            }
            return this;
        }
    }

    static final class Piece {
        int node;
        int face;
        Thing material;
        Thing texture;
        long[][] c;
        long area;
        long w0;
        long w1;
        long w2;
        long h;

        boolean covers(long x, long y) {
            w0 = edge(c[1], c[2], x, y);
            w1 = edge(c[2], c[0], x, y);
            w2 = edge(c[0], c[1], x, y);
            h = w0 * c[0][2] + w1 * c[1][2] + w2 * c[2][2];
            return in(w0, c[1], c[2]) && in(w1, c[2], c[0]) && in(w2, c[0], c[1]);
        }

        static long edge(long[] a, long[] b, long x, long y) {
            return (b[0] - a[0]) * (y - a[1]) - (b[1] - a[1]) * (x - a[0]);
        }

        static boolean in(long e, long[] a, long[] b) {
            return e > 0 || e == 0 && b[1] < a[1] || e == 0 && b[1] == a[1] && b[0] > a[0];
        }

        long mix(int i) {
            return Math.floorDiv(w0 * c[0][2] * c[0][i] + w1 * c[1][2] * c[1][i] + w2 * c[2][2] * c[2][i], h);
        }
    }

    final int width;
    final int height;
    private final List<Integer> tape = new ArrayList<>();
    private Scene scene = new Scene().withFirstOnes();
    private int wrong;
    private int wrongAt;
    private final int[] background = new int[3];
    private List<Piece> pieces;
    private int[] begunBackground;
    private boolean[] done;
    private int[][] colours;
    private int[] nears;
    private int pickedFace = -1;
    private List<Integer> out = new ArrayList<>();

    PlainBox(int width, int height) {
        this.width = Math.min(48, Math.max(8, width));
        this.height = Math.min(48, Math.max(8, height));
    }

    boolean feed(int... numbers) {
        if (tape.size() + 20 > 65536) {
            return false;
        }
        for (int n : numbers) {
            for (int i = 3; i >= 0; i--) {
                tape.add(n >>> (8 * i) & 255);
            }
        }
        return true;
    }

    boolean end(int n) {
        if (n < 0 || n > tape.size()) {
            return false;
        }
        tape.subList(n, tape.size()).clear();
        return true;
    }

    // ---- the text

    private List<Integer> text;
    private int at;
    private char kind;
    private int kindAt;
    private String word;

    int load() {
        text = new ArrayList<>(tape);
        tape.clear();
        wrong = 0;
        wrongAt = 0;
        at = 0;
        Scene fresh = new Scene();
        nextToken();
        token('{');
        int from = 0;
        boolean first = true;
        while (!(first && kind == '}')) {
            if (!first) {
                if (kind == '}') {
                    break;
                }
                if (from == 7) {
                    throw isWrong(1);
                }
                token(',');
            }
            first = false;
            int part = from;
            while (part < 7 && !(kind == 'w' && word.equals(PARTS[part][0]))) {
                part++;
            }
            if (part == 7) {
                throw isWrong(1);
            }
            nextToken();
            token(':');
            if (part < 5) {
                list(fresh, part);
            } else {
                thing(fresh, part);
            }
            from = part + 1;
        }
        token('}');
        if (kind != '$') {
            throw isWrong(1);
        }
        scene = fresh.withFirstOnes();
        return scene.nodes().size();
    }

    private RuntimeException isWrong(int what) {
        wrong = what;
        wrongAt = kindAt;
        return new IllegalArgumentException();
    }

    /** $ the end, w a word, n a number, ! none, or the sign itself. */
    private void nextToken() {
        while (at < text.size() && List.of(32, 10, 13, 9).contains(text.get(at))) {
            at++;
        }
        kindAt = at;
        if (at == text.size()) {
            kind = '$';
            return;
        }
        StringBuilder rest = new StringBuilder();
        for (int i = at; i < text.size(); i++) {
            rest.append((char) (int) text.get(i));
        }
        java.util.regex.Matcher m =
            java.util.regex.Pattern.compile("[{}\\[\\]:,]|\"[a-z]+\"|-?[0-9]+").matcher(rest);
        if (!m.lookingAt()) {
            kind = '!';
            return;
        }
        word = m.group();
        at += word.length();
        kind = word.charAt(0);
        if (kind == '"') {
            kind = 'w';
            word = word.substring(1, word.length() - 1);
        } else if (kind == '-' || Character.isDigit(kind)) {
            kind = 'n';
        }
    }

    private void token(char due) {
        if (kind != due) {
            throw isWrong(1);
        }
        nextToken();
    }

    private void list(Scene fresh, int part) {
        token('[');
        if (kind != ']') {
            while (true) {
                if (kind == '{' && fresh.things.get(part).size() == MOST[part]) {
                    throw isWrong(3);
                }
                thing(fresh, part);
                if (kind != ',') {
                    break;
                }
                nextToken();
            }
        }
        token(']');
    }

    private void thing(Scene fresh, int part) {
        token('{');
        Thing thing = new Thing();
        for (int i = 1; i < PARTS[part].length; i++) {
            if (i > 1) {
                token(',');
            }
            boolean many = PARTS[part][i].endsWith("[]");
            String name = PARTS[part][i].replace("[]", "");
            if (kind != 'w' || !word.equals(name)) {
                throw isWrong(1);
            }
            nextToken();
            token(':');
            thing.parts.put(name, many ? numbers(fresh, thing, name) : new long[] {number(fresh, thing, name, null)});
        }
        token('}');
        fresh.things.get(part).add(thing);
    }

    private long number(Scene fresh, Thing thing, String name, List<Long> before) {
        if (kind != 'n') {
            throw isWrong(1);
        }
        java.math.BigInteger n = new java.math.BigInteger(word);
        if (n.abs().bitLength() > 40 || !canHave(fresh, thing, name, n.longValue(), before)) {
            throw isWrong(2);
        }
        nextToken();
        return n.longValue();
    }

    private static boolean canHave(Scene fresh, Thing thing, String name, long n, List<Long> before) {
        switch (name) {
            case "side": return n == 1 || n == 2 || n == 4 || n == 8 || n == 16 || n == 32;
            case "wrap": case "what": case "how": return n >= 0 && n <= 2;
            case "soft": case "both": return n == 0 || n == 1;
            case "texels": case "colour": return n >= 0 && n <= 255;
            case "texture": return n >= -1 && n < fresh.textures().size();
            case "material": return n >= 0 && n < fresh.materials().size();
            case "points": case "turn": case "size": return Math.abs(n) <= 1048576;
            case "normals": case "toward": return Math.abs(n) <= 65536;
            case "places": return Math.abs(n) <= 131072;
            case "faces": return n >= 0 && n < thing.all("points").length / 3;
            case "parent": return n >= -1 && n < fresh.nodes().size();
            case "mesh": return n >= -1 && n < fresh.meshes().size();
            case "move": return Math.abs(n) <= 4194304;
            case "node": return n >= 0 && n < fresh.nodes().size();
            case "times":
                return n >= 0 && n <= 1000000 && (before.isEmpty() || n > before.get(before.size() - 1));
            case "values": return Math.abs(n) <= (thing.one("what") == 0 ? 4194304 : 1048576);
            case "focus": return n >= 8 && n <= 512;
            case "ambient": return n >= 0 && n <= 65536;
            default: throw new AssertionError(name);
        }
    }

    private long[] numbers(Scene fresh, Thing thing, String name) {
        int most;
        int least = -1;
        switch (name) {
            case "texels": most = (int) (thing.one("side") * thing.one("side") * 3); break;
            case "colour": most = 4; break;
            case "points": case "faces": most = 384; least = 3; break;
            case "normals": most = thing.all("points").length; break;
            case "places": most = thing.all("points").length / 3 * 2; break;
            case "times": most = 32; least = 1; break;
            case "values": most = thing.all("times").length * 3; break;
            default: most = 3; break;
        }
        List<Long> list = new ArrayList<>();
        token('[');
        if (kind != ']') {
            while (true) {
                if (kind == 'n' && list.size() == most) {
                    throw isWrong(3);
                }
                list.add(number(fresh, thing, name, list));
                if (kind != ',') {
                    break;
                }
                nextToken();
            }
        }
        if (kind == ']' && (least < 0 ? list.size() < most : list.size() < least || list.size() % least != 0)) {
            throw isWrong(3);
        }
        token(']');
        return list.stream().mapToLong(n -> n).toArray();
    }

    int error(int what) {
        return what == 0 ? wrong : what == 1 ? wrongAt : 0;
    }

    int count(int what) {
        if (what == 5) {
            return (int) scene.now;
        }
        return what < 0 || what > 4 ? -1 : scene.things.get(what).size();
    }

    // ---- the scene

    boolean time(int t) {
        if (t < 0 || t > 1000000) {
            return false;
        }
        scene.now = t;
        for (Thing track : scene.things.get(4)) {
            String what = new String[] {"move", "turn", "size"}[(int) track.one("what")];
            long[] target = scene.nodes().get((int) track.one("node")).all(what);
            long[] times = track.all("times");
            long[] values = track.all("values");
            int n = times.length;
            for (int axis = 0; axis < 3; axis++) {
                if (t < times[0]) {
                    target[axis] = values[axis];
                } else if (t >= times[n - 1]) {
                    target[axis] = values[3 * n - 3 + axis];
                } else {
                    int k = 0;
                    while (times[k + 1] <= t) {
                        k++;
                    }
                    target[axis] = between((int) track.one("how"), values[3 * k + axis], values[3 * k + 3 + axis],
                        t - times[k], times[k + 1] - times[k]);
                }
            }
        }
        return true;
    }

    private static long between(int how, long a, long b, long past, long whole) {
        if (how == 0) {
            return a;
        }
        if (how == 1) {
            return a + Math.floorDiv((b - a) * past, whole);
        }
        long f = Math.floorDiv(past * 65536, whole);
        return a + mul(b - a, mul(mul(f, f), 196608 - 2 * f));
    }

    boolean set(int node, int what, int x, int y, int z) {
        if (!hasNode(node) || what < 0 || what > 2 || !fit(what == 0 ? 4194304 : 1048576, x, y, z)) {
            return false;
        }
        scene.nodes().get(node).parts.put(new String[] {"move", "turn", "size"}[what], new long[] {x, y, z});
        return true;
    }

    private boolean hasNode(int node) {
        return node >= 0 && node < scene.nodes().size();
    }

    private static boolean fit(long most, long... numbers) {
        return Arrays.stream(numbers).allMatch(n -> n >= -most && n <= most);
    }

    boolean hang(int node, int parent) {
        if (!hasNode(node) || parent < -1 || parent >= node) {
            return false;
        }
        scene.nodes().get(node).parts.put("parent", new long[] {parent});
        return true;
    }

    boolean hide(int node, boolean is) {
        if (!hasNode(node)) {
            return false;
        }
        scene.nodes().get(node).hidden = is;
        return true;
    }

    boolean camera(int what, int x, int y, int z) {
        if (what == 2) {
            if (x < 8 || x > 512) {
                return false;
            }
            scene.camera().parts.put("focus", new long[] {x});
            return true;
        }
        if (what < 0 || what > 2 || !fit(what == 0 ? 4194304 : 1048576, x, y, z)) {
            return false;
        }
        scene.camera().parts.put(what == 0 ? "move" : "turn", new long[] {x, y, z});
        return true;
    }

    boolean light(int x, int y, int z, int ambient) {
        if (!fit(65536, x, y, z) || ambient < 0 || ambient > 65536) {
            return false;
        }
        scene.light().parts.put("toward", new long[] {x, y, z});
        scene.light().parts.put("ambient", new long[] {ambient});
        return true;
    }

    boolean background(int red, int green, int blue) {
        for (int n : new int[] {red, green, blue}) {
            if (n < 0 || n > 255) {
                return false;
            }
        }
        background[0] = red;
        background[1] = green;
        background[2] = blue;
        return true;
    }

    int world(int node, int i, int j) {
        if (!hasNode(node) || i < 0 || i > 2 || j < 0 || j > 3) {
            throw new NoSuchElementException();
        }
        return (int) worldOf(scene, node)[i][j];
    }

    // ---- numbers and matrices

    static long mul(long a, long b) {
        return Math.floorDiv(a * b, 65536L);
    }

    static long bound(long v) {
        return v < -16777216 ? -16777216 : v > 16777216 ? 16777216 : v;
    }

    static long[][] times(long[][] a, long[][] b) {
        long[][] c = new long[3][4];
        for (int i = 0; i < 3; i++) {
            for (int j = 0; j < 4; j++) {
                c[i][j] = bound(mul(a[i][0], b[0][j]) + mul(a[i][1], b[1][j]) + mul(a[i][2], b[2][j])
                    + (j == 3 ? a[i][3] : 0));
            }
        }
        return c;
    }

    static long[] times(long[][] a, long x, long y, long z, boolean point) {
        long[] c = new long[3];
        for (int i = 0; i < 3; i++) {
            c[i] = bound(mul(a[i][0], x) + mul(a[i][1], y) + mul(a[i][2], z) + (point ? a[i][3] : 0));
        }
        return c;
    }

    static long sin(long k) {
        long m = Math.floorMod(k, 4096L);
        if (m >= 2048) {
            return -sin(m - 2048);
        }
        long p = m * (2048 - m);
        return Math.floorDiv(1048576 * p, 20971520 - 4 * p);
    }

    static long[][] turn(long[] t) {
        long one = 65536;
        long s = sin(t[0]);
        long c = sin(t[0] + 1024);
        long[][] x = {{one, 0, 0, 0}, {0, c, -s, 0}, {0, s, c, 0}};
        s = sin(t[1]);
        c = sin(t[1] + 1024);
        long[][] y = {{c, 0, s, 0}, {0, one, 0, 0}, {-s, 0, c, 0}};
        s = sin(t[2]);
        c = sin(t[2] + 1024);
        long[][] z = {{c, -s, 0, 0}, {s, c, 0, 0}, {0, 0, one, 0}};
        return times(times(y, x), z);
    }

    static long[][] worldOf(Scene scene, int number) {
        Thing node = scene.nodes().get(number);
        long[][] local = turn(node.all("turn"));
        for (int i = 0; i < 3; i++) {
            for (int j = 0; j < 3; j++) {
                local[i][j] = bound(mul(local[i][j], node.all("size")[j]));
            }
            local[i][3] = node.all("move")[i];
        }
        int parent = (int) node.one("parent");
        return parent < 0 ? local : times(worldOf(scene, parent), local);
    }

    static long[][] viewOf(Scene scene) {
        long[][] t = turn(scene.camera().all("turn"));
        long[] m = scene.camera().all("move");
        long[][] v = new long[3][4];
        for (int i = 0; i < 3; i++) {
            for (int j = 0; j < 3; j++) {
                v[i][j] = t[j][i];
            }
        }
        for (int i = 0; i < 3; i++) {
            v[i][3] = bound(-(mul(v[i][0], m[0]) + mul(v[i][1], m[1]) + mul(v[i][2], m[2])));
        }
        return v;
    }

    // ---- pieces

    private static boolean seen(Scene scene, int number) {
        if (scene.nodes().get(number).one("mesh") < 0) {
            return false;
        }
        for (int n = number; n >= 0; n = (int) scene.nodes().get(n).one("parent")) {
            if (scene.nodes().get(n).hidden) {
                return false;
            }
        }
        return true;
    }

    private List<Piece> piecesOf(Scene scene) {
        long[][] view = viewOf(scene);
        Map<Integer, Long> solid = new HashMap<>();
        Map<Integer, Long> clear = new HashMap<>();
        for (int n = 0; n < scene.nodes().size(); n++) {
            if (seen(scene, n)) {
                boolean isSolid = materialOf(scene, n).all("colour")[3] == 255;
                (isSolid ? solid : clear).put(n, times(view, worldOf(scene, n))[2][3]);
            }
        }
        List<Integer> order = new ArrayList<>(solid.keySet());
        order.sort(Comparator.<Integer, Long>comparing(solid::get).thenComparing(n -> n));
        List<Integer> later = new ArrayList<>(clear.keySet());
        later.sort(Comparator.<Integer, Long>comparing(n -> -clear.get(n)).thenComparing(n -> n));
        order.addAll(later);
        List<Piece> all = new ArrayList<>();
        for (int node : order) {
            Thing mesh = scene.meshes().get((int) scene.nodes().get(node).one("mesh"));
            long[][] world = worldOf(scene, node);
            long[][] m = times(view, world);
            for (int face = 0; face < mesh.all("faces").length / 3; face++) {
                List<long[]> corners = new ArrayList<>();
                for (int k = 0; k < 3; k++) {
                    corners.add(cornerOf(scene, mesh, world, m, (int) mesh.all("faces")[3 * face + k]));
                }
                addPieces(scene, all, node, face, cut(corners, scene.camera().one("focus")));
            }
        }
        return new ArrayList<>(all.subList(0, Math.min(all.size(), 36864)));
    }

    private static Thing materialOf(Scene scene, int node) {
        Thing mesh = scene.meshes().get((int) scene.nodes().get(node).one("mesh"));
        return scene.materials().get((int) mesh.one("material"));
    }

    private static long[] cornerOf(Scene scene, Thing mesh, long[][] world, long[][] m, int point) {
        long[] p = mesh.all("points");
        long[] n = mesh.all("normals");
        long[] at = times(m, p[3 * point], p[3 * point + 1], p[3 * point + 2], true);
        long[] normal = times(world, n[3 * point], n[3 * point + 1], n[3 * point + 2], false);
        long[] toward = scene.light().all("toward");
        long d = mul(normal[0], toward[0]) + mul(normal[1], toward[1]) + mul(normal[2], toward[2]);
        long l = Math.min(65536, scene.light().one("ambient") + (d > 0 ? d : 0));
        return new long[] {at[0], at[1], at[2], mesh.all("places")[2 * point], mesh.all("places")[2 * point + 1], l};
    }

    private List<long[]> cut(List<long[]> corners, long f) {
        for (int side = 0; side < 5; side++) {
            List<long[]> left = new ArrayList<>();
            for (int i = 0; i < corners.size(); i++) {
                long[] here = corners.get(i);
                long[] next = corners.get((i + 1) % corners.size());
                boolean stays = sideOf(side, here, f) >= 0;
                if (stays) {
                    left.add(here);
                }
                if (stays != sideOf(side, next, f) >= 0) {
                    long[] p = stays ? here : next;
                    long[] q = stays ? next : here;
                    long a = sideOf(side, p, f);
                    long b = sideOf(side, q, f);
                    long[] fresh = new long[6];
                    for (int k = 0; k < 6; k++) {
                        fresh[k] = p[k] + Math.floorDiv((q[k] - p[k]) * a, a - b);
                    }
                    left.add(fresh);
                }
            }
            corners = left;
        }
        return corners;
    }

    private long sideOf(int side, long[] c, long f) {
        switch (side) {
            case 0: return c[2] - 4096;
            case 1: return f * c[0] + width * c[2];
            case 2: return width * c[2] - f * c[0];
            case 3: return f * c[1] + height * c[2];
            default: return height * c[2] - f * c[1];
        }
    }

    private void addPieces(Scene scene, List<Piece> all, int node, int face, List<long[]> corners) {
        long f = scene.camera().one("focus");
        List<long[]> flat = new ArrayList<>();
        for (long[] c : corners) {
            flat.add(new long[] {Math.floorDiv(16 * f * c[0], c[2]) + 8 * width,
                Math.floorDiv(16 * f * c[1], c[2]) + 8 * height, Math.floorDiv(4294967296L, c[2]), c[3], c[4], c[5]});
        }
        Thing material = materialOf(scene, node);
        for (int k = 1; k + 1 < flat.size(); k++) {
            Piece piece = new Piece();
            piece.c = new long[][] {flat.get(0), flat.get(k), flat.get(k + 1)};
            piece.area = areaOf(piece.c, 0, 1);
            if (piece.area < 0 && material.one("both") == 1) {
                piece.c = new long[][] {flat.get(0), flat.get(k + 1), flat.get(k)};
                piece.area = areaOf(piece.c, 0, 1);
            }
            if (piece.area <= 0) {
                continue;
            }
            piece.node = node;
            piece.face = face;
            piece.material = material;
            piece.texture = material.one("texture") < 0 ? null : scene.textures().get((int) material.one("texture"));
            all.add(piece);
        }
    }

    private static long areaOf(long[][] c, int x, int y) {
        return (c[1][x] - c[0][x]) * (c[2][y] - c[0][y]) - (c[2][x] - c[0][x]) * (c[1][y] - c[0][y]);
    }

    // ---- the picture

    int begin() {
        pieces = piecesOf(scene.copy());
        begunBackground = background.clone();
        done = new boolean[tilesAcross() * ((height + 7) / 8)];
        colours = new int[width * height][];
        nears = new int[width * height];
        return done.length;
    }

    private int tilesAcross() {
        return (width + 7) / 8;
    }

    boolean tile(int k) {
        if (pieces == null || k < 0 || k >= done.length || done[k]) {
            return false;
        }
        done[k] = true;
        for (int y = 0; y < height; y++) {
            for (int x = 0; x < width; x++) {
                if (tileOf(x, y) == k) {
                    paint(x, y);
                }
            }
        }
        return true;
    }

    private int tileOf(int x, int y) {
        return y / 8 * tilesAcross() + x / 8;
    }

    private void paint(int x, int y) {
        int[] colour = begunBackground.clone();
        long near = 0;
        for (Piece piece : pieces) {
            if (!piece.covers(16 * x + 8, 16 * y + 8)) {
                continue;
            }
            long n = Math.floorDiv(piece.h, piece.area);
            if (n <= near) {
                continue;
            }
            long c = piece.material.all("colour")[3];
            long[] texel = piece.texture == null ? new long[] {255, 255, 255} : texelAt(piece);
            long l = piece.mix(5);
            for (int i = 0; i < 3; i++) {
                long fresh = Math.floorDiv(Math.floorDiv(texel[i] * piece.material.all("colour")[i], 255L) * l, 65536L);
                colour[i] = (int) (c == 255 ? fresh : Math.floorDiv(fresh * c + colour[i] * (255 - c), 255L));
            }
            near = c == 255 ? n : near;
        }
        colours[y * width + x] = colour;
        nears[y * width + x] = (int) near;
    }

    private static long[] texelAt(Piece piece) {
        Thing texture = piece.texture;
        long side = texture.one("side");
        long spread = Math.abs(areaOf(piece.c, 3, 4)) * side * side;
        int s = (int) side;
        long[] texels = texture.all("texels");
        long power = 1;
        while (s > 1 && spread > piece.area * 16777216 * power) {
            texels = half(texels, s);
            s /= 2;
            power *= 4;
        }
        long a = piece.mix(3) * s;
        long b = piece.mix(4) * s;
        int wrap = (int) texture.one("wrap");
        long[] mixed = new long[3];
        if (texture.one("soft") == 0) {
            for (int n = 0; n < 3; n++) {
                mixed[n] = texel(texels, s, wrap, Math.floorDiv(a, 65536L), Math.floorDiv(b, 65536L), n);
            }
            return mixed;
        }
        a -= 32768;
        b -= 32768;
        long i = Math.floorDiv(a, 65536L);
        long j = Math.floorDiv(b, 65536L);
        long g = Math.floorDiv(a - 65536 * i, 256L);
        long k = Math.floorDiv(b - 65536 * j, 256L);
        for (int n = 0; n < 3; n++) {
            long c00 = texel(texels, s, wrap, i, j, n);
            long c10 = texel(texels, s, wrap, i + 1, j, n);
            long c01 = texel(texels, s, wrap, i, j + 1, n);
            long c11 = texel(texels, s, wrap, i + 1, j + 1, n);
            mixed[n] = Math.floorDiv(c00 * (256 - g) * (256 - k) + c10 * g * (256 - k) + c01 * (256 - g) * k
                + c11 * g * k, 65536L);
        }
        return mixed;
    }

    private static long[] half(long[] texels, int s) {
        long[] fresh = new long[texels.length / 4];
        for (int j = 0; j < s / 2; j++) {
            for (int i = 0; i < s / 2; i++) {
                for (int n = 0; n < 3; n++) {
                    long sum = 0;
                    for (int k = 0; k < 4; k++) {
                        sum += texels[3 * ((2 * j + k / 2) * s + 2 * i + k % 2) + n];
                    }
                    fresh[3 * (j * (s / 2) + i) + n] = sum / 4;
                }
            }
        }
        return fresh;
    }

    private static long texel(long[] texels, int s, int wrap, long i, long j, int n) {
        return texels[(int) (3 * (wrapped(j, s, wrap) * s + wrapped(i, s, wrap)) + n)];
    }

    private static long wrapped(long i, long s, int wrap) {
        if (wrap == 0) {
            return Math.floorMod(i, s);
        }
        if (wrap == 1) {
            return Math.max(0, Math.min(s - 1, i));
        }
        long m = Math.floorMod(i, 2 * s);
        return m >= s ? 2 * s - 1 - m : m;
    }

    private boolean shows(int x, int y) {
        return pieces != null && x >= 0 && x < width && y >= 0 && y < height && done[tileOf(x, y)];
    }

    int pixel(int x, int y) {
        if (!shows(x, y)) {
            return -1;
        }
        int[] c = colours[y * width + x];
        return c[0] * 65536 + c[1] * 256 + c[2];
    }

    int nearness(int x, int y) {
        return shows(x, y) ? nears[y * width + x] : -1;
    }

    int pick(int x, int y) {
        pickedFace = -1;
        int node = -1;
        if (x < 0 || x >= width || y < 0 || y >= height) {
            return -1;
        }
        long near = 0;
        for (Piece piece : piecesOf(scene)) {
            if (piece.covers(16 * x + 8, 16 * y + 8) && Math.floorDiv(piece.h, piece.area) > near) {
                near = Math.floorDiv(piece.h, piece.area);
                node = piece.node;
                pickedFace = piece.face;
            }
        }
        return node;
    }

    int picked() {
        return pickedFace;
    }

    // ---- the file

    int file() {
        if (pieces == null) {
            return -1;
        }
        for (boolean is : done) {
            if (!is) {
                return -1;
            }
        }
        out = new ArrayList<>(List.of(137, 80, 78, 71, 13, 10, 26, 10));
        List<Integer> data = new ArrayList<>();
        number(data, width);
        number(data, height);
        data.addAll(List.of(8, 2, 0, 0, 0));
        chunk("IHDR", data);
        List<Integer> rows = rows();
        data = new ArrayList<>(List.of(120, 1));
        data.addAll(packed(rows));
        java.util.zip.Adler32 sum = new java.util.zip.Adler32();
        rows.forEach(sum::update);
        number(data, (int) sum.getValue());
        chunk("IDAT", data);
        chunk("IEND", List.of());
        return out.size();
    }

    int byteAt(int k) {
        return k >= 0 && k < out.size() ? out.get(k) : -1;
    }

    private static void number(List<Integer> to, int n) {
        for (int i = 3; i >= 0; i--) {
            to.add(n >>> (8 * i) & 255);
        }
    }

    private void chunk(String name, List<Integer> data) {
        number(out, data.size());
        java.util.zip.CRC32 crc = new java.util.zip.CRC32();
        for (char c : name.toCharArray()) {
            out.add((int) c);
            crc.update(c);
        }
        out.addAll(data);
        data.forEach(crc::update);
        number(out, (int) crc.getValue());
    }

    private int byteOf(int x, int y) {
        return x < 0 || y < 0 ? 0 : colours[y * width + x / 3][x % 3];
    }

    private List<Integer> rows() {
        List<Integer> rows = new ArrayList<>();
        for (int y = 0; y < height; y++) {
            List<Integer> best = null;
            int least = 0;
            for (int f = 0; f < 5; f++) {
                List<Integer> row = new ArrayList<>(List.of(f));
                int sum = 0;
                for (int x = 0; x < 3 * width; x++) {
                    int v = Math.floorMod(byteOf(x, y) - guess(f, byteOf(x - 3, y), byteOf(x, y - 1),
                        byteOf(x - 3, y - 1)), 256);
                    row.add(v);
                    sum += Math.min(v, 256 - v);
                }
                if (best == null || sum < least) {
                    best = row;
                    least = sum;
                }
            }
            rows.addAll(best);
        }
        return rows;
    }

    private static int guess(int f, int a, int b, int c) {
        int near = a;
        for (int g : new int[] {b, c}) {
            near = Math.abs(a + b - c - g) < Math.abs(a + b - c - near) ? g : near;
        }
        return new int[] {0, a, b, (a + b) / 2, near}[f];
    }

    private static final int[] LENGTHS = {3, 4, 5, 6, 7, 8, 9, 10, 11, 13, 15, 17, 19, 23, 27, 31, 35, 43, 51, 59, 67,
        83, 99, 115, 131, 163, 195, 227, 258};
    private static final int[] LENGTH_BITS = {0, 0, 0, 0, 0, 0, 0, 0, 1, 1, 1, 1, 2, 2, 2, 2, 3, 3, 3, 3, 4, 4, 4, 4,
        5, 5, 5, 5, 0};
    private static final int[] DISTANCES = {1, 2, 3, 4, 5, 7, 9, 13, 17, 25, 33, 49, 65, 97, 129, 193, 257, 385, 513,
        769, 1025, 1537, 2049, 3073, 4097, 6145, 8193, 12289, 16385, 24577};

    private static List<Integer> packed(List<Integer> rows) {
        StringBuilder bits = new StringBuilder("110");
        int[] r = rows.stream().mapToInt(n -> n).toArray();
        int at = 0;
        while (at < r.length) {
            int length = 0;
            int back = 0;
            for (int place = at - 1; place >= 0 && place >= at - 32768; place--) {
                int n = 0;
                while (n < 258 && at + n < r.length && r[place + n] == r[at + n]) {
                    n++;
                }
                if (n > length) {
                    length = n;
                    back = at - place;
                }
            }
            if (length < 3) {
                sign(bits, r[at]);
                at++;
                continue;
            }
            int k = LENGTHS.length - 1;
            while (LENGTHS[k] > length) {
                k--;
            }
            sign(bits, 257 + k);
            low(bits, length - LENGTHS[k], LENGTH_BITS[k]);
            k = DISTANCES.length - 1;
            while (DISTANCES[k] > back) {
                k--;
            }
            high(bits, k, 5);
            low(bits, back - DISTANCES[k], k < 4 ? 0 : k / 2 - 1);
            at += length;
        }
        sign(bits, 256);
        while (bits.length() % 8 != 0) {
            bits.append('0');
        }
        List<Integer> bytes = new ArrayList<>();
        for (int i = 0; i < bits.length(); i += 8) {
            bytes.add(Integer.parseInt(new StringBuilder(bits.substring(i, i + 8)).reverse().toString(), 2));
        }
        return bytes;
    }

    private static void sign(StringBuilder bits, int s) {
        if (s < 144) {
            high(bits, 48 + s, 8);
        } else if (s < 256) {
            high(bits, 400 + s - 144, 9);
        } else if (s < 280) {
            high(bits, s - 256, 7);
        } else {
            high(bits, 192 + s - 280, 8);
        }
    }

    private static void high(StringBuilder bits, int value, int n) {
        for (int i = n - 1; i >= 0; i--) {
            bits.append(value >> i & 1);
        }
    }

    private static void low(StringBuilder bits, int value, int n) {
        for (int i = 0; i < n; i++) {
            bits.append(value >> i & 1);
        }
    }
}

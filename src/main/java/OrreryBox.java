import java.util.NoSuchElementException;

/** A small engine for pictures of scenes; the document numbers its promises. */
public final class OrreryBox {
    public static final int NONE = -1;

    private static final int LEAST_SIDE = 8;
    private static final int MOST_SIDE = 48;
    private static final int TAPE = 65536;
    private static final int ONE = 65536;
    private static final int MOVE = 0;
    private static final int TURN = 1;
    private static final int FOCUS = 6;
    private static final int AMBIENT = 3;
    private static final int FAR_MOVE = 4194304;
    private static final int FAR_TURN = 1048576;
    private static final int FAR_POINT = 1048576;
    private static final int FAR_PLACE = 131072;
    private static final int LAST_TIME = 1000000;
    private static final int LEAST_FOCUS = 8;
    private static final int MOST_FOCUS = 512;

    private static final int TEXTURES = 0;
    private static final int MATERIALS = 1;
    private static final int MESHES = 2;
    private static final int NODES = 3;
    private static final int TRACKS = 4;
    private static final int CAMERA = 5;
    private static final int LIGHT = 6;
    private static final int[] LIMITS = {8, 16, 16, 48, 32};

    /** A material's row: red, green, blue, and then these. */
    private static final int CLEARNESS = 3;
    private static final int TEXTURE = 4;
    private static final int BOTH = 5;
    private static final int SOLID = 255;

    private static final int MESH_POINTS = 128;
    private static final int MESH_FACES = 128;
    private static final int TRACK_KEYS = 32;
    private static final int LONGEST_LIST = 3072;
    private static final int CORNER = 6;
    private static final int PIECE = 3 * CORNER;
    /**
     * Cutting rounds, so a shape may stop being convex, and a side may cut it more than twice: of 3 corners the five
     * sides make at most 4, 6, 9, 13 and 19.
     */
    private static final int MOST_CORNERS = 24;
    private static final int MOST_FACES = 6144;
    private static final int MOST_PIECES = 36864;

    private final int width;
    private final int height;
    private final byte[] tape = new byte[TAPE];
    private int taped;
    /** One scene is now, one may belong to the picture, and so a third is always free to be read into. */
    private final Scene[] scenes = new Scene[3];
    private Scene scene;
    private final Reader reader = new Reader();
    private final Sight sight;
    private final Picture picture;
    private final Packer packer = new Packer();
    private int ground;
    private int pickedFace = NONE;

    public OrreryBox(int width, int height) {
        this.width = nearest(width, LEAST_SIDE, MOST_SIDE);
        this.height = nearest(height, LEAST_SIDE, MOST_SIDE);
        for (int i = 0; i < scenes.length; i++) {
            scenes[i] = new Scene();
        }
        scene = scenes[0];
        sight = new Sight(this.width, this.height);
        picture = new Picture(this.width, this.height);
    }

    public boolean feed(int a, int b, int c, int d, int e) {
        if (taped + 20 > TAPE) {
            return false;
        }
        tapeNumber(a);
        tapeNumber(b);
        tapeNumber(c);
        tapeNumber(d);
        tapeNumber(e);
        return true;
    }

    public boolean end(int n) {
        if (n < 0 || n > taped) {
            return false;
        }
        taped = n;
        return true;
    }

    public int load() throws IllegalArgumentException {
        int length = taped;
        taped = 0;
        Scene free = freeScene();
        reader.read(tape, length, free);
        scene = free;
        return scene.counts[NODES];
    }

    public int error(int what) {
        return what == 0 ? reader.wrong : what == 1 ? reader.wrongAt : 0;
    }

    public int count(int what) {
        if (what == 5) {
            return scene.now;
        }
        return within(what, TEXTURES, TRACKS) ? scene.counts[what] : NONE;
    }

    public boolean time(int t) {
        if (!within(t, 0, LAST_TIME)) {
            return false;
        }
        scene.moveTo(t);
        return true;
    }

    public boolean set(int node, int what, int x, int y, int z) {
        if (!scene.hasNode(node) || !within(what, 0, 2) || !allWithin(x, y, z, reachOf(what))) {
            return false;
        }
        int[] numbers = scene.nodes[node].numbers;
        numbers[3 * what] = x;
        numbers[3 * what + 1] = y;
        numbers[3 * what + 2] = z;
        scene.placed = false;
        return true;
    }

    public boolean hang(int node, int parent) {
        if (!scene.hasNode(node) || !within(parent, NONE, node - 1)) {
            return false;
        }
        scene.nodes[node].parent = parent;
        scene.placed = false;
        return true;
    }

    public boolean hide(int node, boolean is) {
        if (!scene.hasNode(node)) {
            return false;
        }
        scene.nodes[node].hidden = is;
        scene.placed = false;
        return true;
    }

    public boolean camera(int what, int x, int y, int z) {
        int[] row = scene.viewer;
        if (what == 2 && within(x, LEAST_FOCUS, MOST_FOCUS)) {
            row[FOCUS] = x;
            return true;
        }
        if (!within(what, MOVE, TURN) || !allWithin(x, y, z, reachOf(what))) {
            return false;
        }
        row[3 * what] = x;
        row[3 * what + 1] = y;
        row[3 * what + 2] = z;
        return true;
    }

    public boolean light(int x, int y, int z, int ambient) {
        if (!allWithin(x, y, z, ONE) || !within(ambient, 0, ONE)) {
            return false;
        }
        scene.lamp[0] = x;
        scene.lamp[1] = y;
        scene.lamp[2] = z;
        scene.lamp[AMBIENT] = ambient;
        return true;
    }

    public boolean background(int red, int green, int blue) {
        if (!within(red, 0, 255) || !within(green, 0, 255) || !within(blue, 0, 255)) {
            return false;
        }
        ground = red << 16 | green << 8 | blue;
        return true;
    }

    public int world(int node, int i, int j) throws NoSuchElementException {
        if (!scene.hasNode(node) || !within(i, 0, 2) || !within(j, 0, 3)) {
            throw new NoSuchElementException();
        }
        scene.placeNodes();
        return scene.nodes[node].placing[4 * i + j];
    }

    public int begin() {
        scene.placeNodes();
        sight.stand(scene);
        picture.start(scene, ground);
        for (int n = 0; n < MOST_PIECES && sight.nextPiece(); n++) {
            picture.keep(sight.piece, sight.materialNumber());
        }
        return picture.tiles;
    }

    public boolean tile(int k) {
        if (!picture.lacks(k)) {
            return false;
        }
        picture.drawTile(k);
        return true;
    }

    public int pixel(int x, int y) {
        return hasPixel(x, y) && picture.shows(x, y) ? picture.colours[y * width + x] : NONE;
    }

    public int nearness(int x, int y) {
        return hasPixel(x, y) && picture.shows(x, y) ? picture.nears[y * width + x] : NONE;
    }

    public int pick(int x, int y) {
        pickedFace = NONE;
        if (!hasPixel(x, y)) {
            return NONE;
        }
        scene.placeNodes();
        sight.stand(scene);
        Piece piece = sight.piece;
        int node = NONE;
        long nearest = 0;
        for (int n = 0; n < MOST_PIECES && sight.nextPiece(); n++) {
            if (piece.mayCover(x, y) && piece.covers(x, y) && piece.near() > nearest) {
                nearest = piece.near();
                node = sight.nodeNumber();
                pickedFace = sight.face;
            }
        }
        return node;
    }

    public int picked() {
        return pickedFace;
    }

    public int file() {
        if (!picture.isWhole()) {
            return NONE;
        }
        packer.write(picture.colours, width, height);
        return packer.size;
    }

    public int byteAt(int k) {
        return within(k, 0, packer.size - 1) ? packer.out[k] & 255 : NONE;
    }

    private void tapeNumber(int number) {
        for (int shift = 24; shift >= 0; shift -= 8) {
            tape[taped] = (byte) (number >> shift);
            taped++;
        }
    }

    private Scene freeScene() {
        Scene free = scenes[0];
        for (int i = 0; i < scenes.length; i++) {
            if (scenes[i] != scene && scenes[i] != picture.scene) {
                free = scenes[i];
            }
        }
        return free;
    }

    private boolean hasPixel(int x, int y) {
        return within(x, 0, width - 1) && within(y, 0, height - 1);
    }

    private static boolean within(int v, int low, int high) {
        return v >= low && v <= high;
    }

    private static boolean allWithin(int x, int y, int z, int reach) {
        return within(x, -reach, reach) && within(y, -reach, reach) && within(z, -reach, reach);
    }

    private static int nearest(int v, int low, int high) {
        return Math.max(low, Math.min(high, v));
    }

    /** How far from 0 a node's or the camera's numbers may be: a move further than a turn or a size. */
    private static int reachOf(int what) {
        return what == MOVE ? FAR_MOVE : FAR_TURN;
    }

    /** The document's arithmetic, and its matrices as rows of 12. */
    private static final class Fixed {
        static long div(long a, long b) {
            return b == 0 ? 0 : Math.floorDiv(a, b);
        }

        static long mul(long a, long b) {
            return (a * b) >> 16;
        }

        static int bound(long v) {
            return (int) Math.max(-16777216L, Math.min(16777216L, v));
        }

        static int sin(int k) {
            int turn = k & 4095;
            long half = turn & 2047;
            long p = half * (2048 - half);
            int sine = (int) div(1048576 * p, 20971520 - 4 * p);
            return turn < 2048 ? sine : -sine;
        }

        /** Row i of a matrix with a direction, not bounded yet. */
        static long along(int[] m, int i, long x, long y, long z) {
            return mul(m[4 * i], x) + mul(m[4 * i + 1], y) + mul(m[4 * i + 2], z);
        }

        static void multiply(int[] a, int[] b, int[] to) {
            for (int i = 0; i < 3; i++) {
                for (int j = 0; j < 4; j++) {
                    long sum = along(a, i, b[j], b[4 + j], b[8 + j]);
                    to[4 * i + j] = bound(j == 3 ? sum + a[4 * i + 3] : sum);
                }
            }
        }

        /**
         * Products with the 0s and 1s of the three turns are exact, so just these ones are left to round. The fourth
         * column is left to whoever asks: a move stands there.
         */
        static void turn(int[] numbers, int from, int[] to) {
            int sx = sin(numbers[from]);
            int cx = sin(numbers[from] + 1024);
            int sy = sin(numbers[from + 1]);
            int cy = sin(numbers[from + 1] + 1024);
            int sz = sin(numbers[from + 2]);
            int cz = sin(numbers[from + 2] + 1024);
            roll(to, 0, cy, mul(sy, sx), sz, cz);
            to[2] = (int) mul(sy, cx);
            roll(to, 4, 0, cx, sz, cz);
            to[6] = -sx;
            roll(to, 8, -sy, mul(cy, sx), sz, cz);
            to[10] = (int) mul(cy, cx);
        }

        /** A row's first two numbers a and b, turned about Z. */
        private static void roll(int[] to, int at, long a, long b, int sz, int cz) {
            to[at] = (int) (mul(a, cz) + mul(b, sz));
            to[at + 1] = (int) (mul(a, -sz) + mul(b, cz));
        }
    }

    private static final class Texture {
        int side;
        int wrap;
        boolean soft;
        private int last;
        /** All levels one behind the other: red, green and blue in one number. */
        private final int[] texels = new int[1365];
        private final int[] starts = new int[6];

        void fill(int[] numbers) {
            for (int i = 0; i < side * side; i++) {
                texels[i] = numbers[3 * i] << 16 | numbers[3 * i + 1] << 8 | numbers[3 * i + 2];
            }
            last = 0;
            for (int s = side; s > 1 && last + 1 < starts.length; s = s / 2) {
                starts[last + 1] = starts[last] + s * s;
                halve(starts[last], s, starts[last + 1]);
                last++;
            }
        }

        private void halve(int from, int s, int to) {
            int half = s / 2;
            for (int j = 0; j < half; j++) {
                for (int i = 0; i < half; i++) {
                    int at = from + 2 * j * s + 2 * i;
                    texels[to + j * half + i] = mean(texels[at], texels[at + 1], texels[at + s], texels[at + s + 1]);
                }
            }
        }

        private static int mean(int a, int b, int c, int d) {
            int mixed = 0;
            for (int shift = 0; shift <= 16; shift += 8) {
                int sum = (a >> shift & 255) + (b >> shift & 255) + (c >> shift & 255) + (d >> shift & 255);
                mixed |= sum / 4 << shift;
            }
            return mixed;
        }

        /** The level for a piece with that area on the picture and that spread of its places. */
        int levelFor(long spread, long area) {
            long need = spread * side * side;
            long room = area * 16777216;
            int level = 0;
            while (level < last && need > room) {
                room *= 4;
                level++;
            }
            return level;
        }

        int colourAt(int level, long u, long v) {
            int s = side >> level;
            int start = starts[level];
            return soft ? softAt(start, s, u * s - 32768, v * s - 32768) : texel(start, s, u * s >> 16, v * s >> 16);
        }

        private int softAt(int start, int s, long a, long b) {
            long i = a >> 16;
            long j = b >> 16;
            int g = (int) (a - (i << 16)) >> 8;
            int k = (int) (b - (j << 16)) >> 8;
            int c00 = texel(start, s, i, j);
            int c10 = texel(start, s, i + 1, j);
            int c01 = texel(start, s, i, j + 1);
            int c11 = texel(start, s, i + 1, j + 1);
            int mixed = 0;
            for (int shift = 0; shift <= 16; shift += 8) {
                int above = (c00 >> shift & 255) * (256 - g) + (c10 >> shift & 255) * g;
                int below = (c01 >> shift & 255) * (256 - g) + (c11 >> shift & 255) * g;
                mixed |= (above * (256 - k) + below * k >> 16) << shift;
            }
            return mixed;
        }

        private int texel(int start, int s, long i, long j) {
            return texels[start + wrapped((int) j, s) * s + wrapped((int) i, s)];
        }

        private int wrapped(int i, int s) {
            if (i >= 0 && i < s) {
                return i;
            }
            if (wrap == 1) {
                return i < 0 ? 0 : s - 1;
            }
            // A side is a power of two, so a mask is the modulo that the document asks for, below 0 too.
            if (wrap == 0) {
                return i & (s - 1);
            }
            int round = i & (2 * s - 1);
            return round < s ? round : 2 * s - 1 - round;
        }
    }

    private static final class Mesh {
        int material;
        int pointCount;
        int faceCount;
        final int[] points = new int[3 * MESH_POINTS];
        final int[] normals = new int[3 * MESH_POINTS];
        final int[] places = new int[2 * MESH_POINTS];
        final int[] faces = new int[3 * MESH_FACES];
    }

    private static final class Node {
        int parent;
        int mesh;
        boolean hidden;
        boolean shown;
        /** Its move, turn and size. */
        final int[] numbers = new int[9];
        final int[] placing = new int[12];

        void placeLocal(int[] local) {
            Fixed.turn(numbers, 3, local);
            for (int i = 0; i < 3; i++) {
                for (int j = 0; j < 3; j++) {
                    local[4 * i + j] = Fixed.bound(Fixed.mul(local[4 * i + j], numbers[6 + j]));
                }
                local[4 * i + 3] = numbers[i];
            }
        }
    }

    private static final class Track {
        int node;
        int what;
        int how;
        int keys;
        final int[] times = new int[TRACK_KEYS];
        final int[] values = new int[3 * TRACK_KEYS];

        void apply(int t, int[] numbers) {
            int key = keyAt(t);
            for (int axis = 0; axis < 3; axis++) {
                numbers[3 * what + axis] = valueAt(t, key, axis);
            }
        }

        /** The last key that is not behind t, or -1. */
        private int keyAt(int t) {
            int key = -1;
            for (int i = 0; i < keys && times[i] <= t; i++) {
                key = i;
            }
            return key;
        }

        private int valueAt(int t, int key, int axis) {
            int a = values[3 * Math.max(key, 0) + axis];
            if (key < 0 || key + 1 >= keys || how == 0) {
                return a;
            }
            long change = values[3 * (key + 1) + axis] - a;
            long past = t - times[key];
            long whole = times[key + 1] - times[key];
            if (how == 1) {
                return (int) (a + Fixed.div(change * past, whole));
            }
            long f = Fixed.div(past * ONE, whole);
            long g = Fixed.mul(Fixed.mul(f, f), 3 * ONE - 2 * f);
            return (int) (a + Fixed.mul(change, g));
        }
    }

    private static final class Scene {
        final int[] counts = new int[5];
        final Texture[] textures = new Texture[LIMITS[TEXTURES]];
        final int[][] materials = new int[LIMITS[MATERIALS]][6];
        final Mesh[] meshes = new Mesh[LIMITS[MESHES]];
        final Node[] nodes = new Node[LIMITS[NODES]];
        final Track[] tracks = new Track[LIMITS[TRACKS]];
        /** The camera's move, turn and focus. */
        final int[] viewer = new int[7];
        /** The direction toward the light, and ambient. */
        final int[] lamp = new int[4];
        int now;
        /** False when something has changed that the nodes' placings are made of. */
        boolean placed;
        private final int[] local = new int[12];

        Scene() {
            for (int i = 0; i < textures.length; i++) {
                textures[i] = new Texture();
            }
            for (int i = 0; i < meshes.length; i++) {
                meshes[i] = new Mesh();
            }
            for (int i = 0; i < nodes.length; i++) {
                nodes[i] = new Node();
            }
            for (int i = 0; i < tracks.length; i++) {
                tracks[i] = new Track();
            }
            clear();
        }

        private void clear() {
            for (int i = 0; i < counts.length; i++) {
                counts[i] = 0;
            }
            for (int i = 0; i < FOCUS; i++) {
                viewer[i] = 0;
            }
            viewer[FOCUS] = 32;
            lamp[0] = 0;
            lamp[1] = 0;
            lamp[2] = -ONE;
            lamp[AMBIENT] = 16384;
            now = 0;
            placed = false;
        }

        boolean hasNode(int node) {
            return node >= 0 && node < counts[NODES];
        }

        void moveTo(int t) {
            now = t;
            placed = false;
            for (int i = 0; i < counts[TRACKS]; i++) {
                tracks[i].apply(t, nodes[tracks[i].node].numbers);
            }
        }

        /** A parent is always before its nodes, so one walk from the first on is enough. */
        void placeNodes() {
            for (int i = 0; i < counts[NODES] && !placed; i++) {
                Node node = nodes[i];
                node.shown = !node.hidden && (node.parent < 0 || nodes[node.parent].shown);
                if (node.parent < 0) {
                    node.placeLocal(node.placing);
                } else {
                    node.placeLocal(local);
                    Fixed.multiply(nodes[node.parent].placing, local, node.placing);
                }
            }
            placed = true;
        }

        int[] materialOf(int node) {
            return materials[meshes[nodes[node].mesh].material];
        }
    }

    /** Reads a text into a scene, or throws and tells what is wrong, and where. */
    private static final class Reader {
        /** Above all that a thing can have, and ten times as much is still an int. */
        private static final int BEYOND = 100000000;

        int wrong;
        int wrongAt;
        private final int[] row = new int[LONGEST_LIST];
        private byte[] text;
        private int length;
        private int at;
        private int numberAt;
        private Scene scene;

        void read(byte[] bytes, int size, Scene into) {
            text = bytes;
            length = size;
            scene = into;
            at = 0;
            wrong = 0;
            wrongAt = 0;
            scene.clear();
            step(0);
            need('{');
            boolean due = !sees('}');
            for (int part = TEXTURES; part <= LIGHT && due; part++) {
                if (!seesWord(wordOf(part))) {
                    continue;
                }
                needName(wordOf(part));
                if (part == CAMERA) {
                    readCamera();
                } else if (part == LIGHT) {
                    readLight();
                } else {
                    readThings(part);
                }
                due = part < LIGHT && takes(',');
            }
            if (due) {
                refuse(1, at);
            }
            need('}');
            if (at < length) {
                refuse(1, at);
            }
        }

        private static String wordOf(int part) {
            switch (part) {
                case TEXTURES:
                    return "textures";
                case MATERIALS:
                    return "materials";
                case MESHES:
                    return "meshes";
                case NODES:
                    return "nodes";
                case TRACKS:
                    return "tracks";
                case CAMERA:
                    return "camera";
                default:
                    return "light";
            }
        }

        private void readThings(int part) {
            need('[');
            boolean due = !sees(']');
            for (int n = 0; n < LIMITS[part] && due; n++) {
                need('{');
                switch (part) {
                    case TEXTURES:
                        readTexture(scene.textures[n]);
                        break;
                    case MATERIALS:
                        readMaterial(scene.materials[n]);
                        break;
                    case MESHES:
                        readMesh(scene.meshes[n]);
                        break;
                    case NODES:
                        readNode(scene.nodes[n], n);
                        break;
                    default:
                        readTrack(scene.tracks[n]);
                        break;
                }
                need('}');
                scene.counts[part] = n + 1;
                due = takes(',');
            }
            if (due) {
                refuse(sees('{') ? 3 : 1, at);
            }
            need(']');
        }

        private void readTexture(Texture texture) {
            texture.side = number("side", 1, 32);
            if ((texture.side & (texture.side - 1)) != 0) {
                refuse(2, numberAt);
            }
            need(',');
            texture.wrap = number("wrap", 0, 2);
            need(',');
            texture.soft = number("soft", 0, 1) == 1;
            need(',');
            int texels = 3 * texture.side * texture.side;
            numbers("texels", texels, texels, 0, 255, false);
            texture.fill(row);
        }

        private void readMaterial(int[] material) {
            numbers("colour", 4, 4, 0, 255, false);
            System.arraycopy(row, 0, material, 0, 4);
            need(',');
            material[TEXTURE] = number("texture", NONE, scene.counts[TEXTURES] - 1);
            need(',');
            material[BOTH] = number("both", 0, 1);
        }

        private void readMesh(Mesh mesh) {
            mesh.material = number("material", 0, scene.counts[MATERIALS] - 1);
            need(',');
            int n = numbers("points", 3 * MESH_POINTS, 3, -FAR_POINT, FAR_POINT, false);
            System.arraycopy(row, 0, mesh.points, 0, n);
            mesh.pointCount = n / 3;
            need(',');
            numbers("normals", n, n, -ONE, ONE, false);
            System.arraycopy(row, 0, mesh.normals, 0, n);
            need(',');
            int flat = 2 * mesh.pointCount;
            numbers("places", flat, flat, -FAR_PLACE, FAR_PLACE, false);
            System.arraycopy(row, 0, mesh.places, 0, flat);
            need(',');
            int corners = numbers("faces", 3 * MESH_FACES, 3, 0, mesh.pointCount - 1, false);
            System.arraycopy(row, 0, mesh.faces, 0, corners);
            mesh.faceCount = corners / 3;
        }

        private void readNode(Node node, int n) {
            node.hidden = false;
            node.parent = number("parent", NONE, n - 1);
            need(',');
            node.mesh = number("mesh", NONE, scene.counts[MESHES] - 1);
            need(',');
            numbers("move", 3, 3, -FAR_MOVE, FAR_MOVE, false);
            System.arraycopy(row, 0, node.numbers, 0, 3);
            need(',');
            numbers("turn", 3, 3, -FAR_TURN, FAR_TURN, false);
            System.arraycopy(row, 0, node.numbers, 3, 3);
            need(',');
            numbers("size", 3, 3, -FAR_TURN, FAR_TURN, false);
            System.arraycopy(row, 0, node.numbers, 6, 3);
        }

        private void readTrack(Track track) {
            track.node = number("node", 0, scene.counts[NODES] - 1);
            need(',');
            track.what = number("what", 0, 2);
            need(',');
            track.how = number("how", 0, 2);
            need(',');
            track.keys = numbers("times", TRACK_KEYS, 1, 0, LAST_TIME, true);
            System.arraycopy(row, 0, track.times, 0, track.keys);
            need(',');
            int reach = reachOf(track.what);
            int values = 3 * track.keys;
            numbers("values", values, values, -reach, reach, false);
            System.arraycopy(row, 0, track.values, 0, values);
        }

        private void readCamera() {
            need('{');
            numbers("move", 3, 3, -FAR_MOVE, FAR_MOVE, false);
            System.arraycopy(row, 0, scene.viewer, 0, 3);
            need(',');
            numbers("turn", 3, 3, -FAR_TURN, FAR_TURN, false);
            System.arraycopy(row, 0, scene.viewer, 3, 3);
            need(',');
            scene.viewer[FOCUS] = number("focus", LEAST_FOCUS, MOST_FOCUS);
            need('}');
        }

        private void readLight() {
            need('{');
            numbers("toward", 3, 3, -ONE, ONE, false);
            System.arraycopy(row, 0, scene.lamp, 0, 3);
            need(',');
            scene.lamp[AMBIENT] = number("ambient", 0, ONE);
            need('}');
        }

        private int number(String name, int low, int high) {
            needName(name);
            return needNumber(low, high);
        }

        /** A list of at most so many numbers, in whole units, comes to the row: how many. */
        private int numbers(String name, int most, int unit, int low, int high, boolean growing) {
            needName(name);
            need('[');
            boolean due = !sees(']');
            int least = low;
            int n = 0;
            while (due && n < most) {
                row[n] = needNumber(least, high);
                least = growing ? row[n] + 1 : low;
                n++;
                due = takes(',');
            }
            if (due) {
                // One more than the list can have is looked at only for being a number.
                needNumber(-BEYOND, BEYOND);
                refuse(3, numberAt);
            }
            if (sees(']') && (n == 0 || n % unit != 0)) {
                refuse(3, at);
            }
            need(']');
            return n;
        }

        /** However long it is, the digits of what no thing can have are not counted further than to BEYOND. */
        private int needNumber(int low, int high) {
            numberAt = at;
            int first = sees('-') ? at + 1 : at;
            int p = first;
            int value = 0;
            while (p < length && text[p] >= '0' && text[p] <= '9') {
                value = Math.min(BEYOND, 10 * value + text[p] - '0');
                p++;
            }
            if (p == first) {
                refuse(1, at);
            }
            value = sees('-') ? -value : value;
            step(p - at);
            if (value < low || value > high) {
                refuse(2, numberAt);
            }
            return value;
        }

        private void needName(String name) {
            if (!seesWord(name)) {
                refuse(1, at);
            }
            step(name.length() + 2);
            if (!sees(':')) {
                refuse(1, at);
            }
            step(1);
        }

        private boolean seesWord(String name) {
            int closing = at + name.length() + 1;
            if (closing >= length || text[at] != '"' || text[closing] != '"') {
                return false;
            }
            for (int i = 0; i < name.length(); i++) {
                if (text[at + 1 + i] != name.charAt(i)) {
                    return false;
                }
            }
            return true;
        }

        private boolean sees(char sign) {
            return at < length && text[at] == sign;
        }

        private boolean takes(char sign) {
            boolean taken = sees(sign);
            step(taken ? 1 : 0);
            return taken;
        }

        private void need(char sign) {
            if (!sees(sign)) {
                refuse(1, at);
            }
            step(1);
        }

        /** So many bytes on, and to the next token. */
        private void step(int bytes) {
            at += bytes;
            while (at < length && (text[at] == 32 || text[at] == 10 || text[at] == 13 || text[at] == 9)) {
                at++;
            }
        }

        private void refuse(int what, int where) {
            wrong = what;
            wrongAt = where;
            throw new IllegalArgumentException();
        }
    }

    /** Walks over what the camera sees of a scene, piece by piece in THE ORDER. */
    private static final class Sight {
        /** The piece that the walk is at, and the face that it is of. */
        final Piece piece = new Piece();
        int face;
        /** The face's corners, cut and on the picture, and which of them is the piece's second one. */
        private int[] corners = new int[CORNER * MOST_CORNERS];
        private int cornerCount;
        private int second;
        private final int width;
        private final int height;
        private Scene scene;
        private final int[] view = new int[12];
        private final int[][] sights = new int[LIMITS[NODES]][12];
        private final int[] order = new int[LIMITS[NODES]];
        private int seen;
        private int place;
        /** Of each point of the mesh that is walked over: x, y, z and its light. */
        private final int[] stood = new int[4 * MESH_POINTS];
        private int[] cutCorners = new int[CORNER * MOST_CORNERS];

        Sight(int width, int height) {
            this.width = width;
            this.height = height;
        }

        /** The walk begins, over a scene whose nodes have been placed. */
        void stand(Scene now) {
            scene = now;
            seen = 0;
            place = 0;
            face = -1;
            cornerCount = 0;
            second = 0;
            placeView();
            for (int i = 0; i < scene.counts[NODES]; i++) {
                Node node = scene.nodes[i];
                if (node.shown && node.mesh >= 0) {
                    Fixed.multiply(view, node.placing, sights[i]);
                    queue(i);
                }
            }
        }

        private void placeView() {
            int[] viewer = scene.viewer;
            Fixed.turn(viewer, 3, view);
            swapAcross(1, 4);
            swapAcross(2, 8);
            swapAcross(6, 9);
            for (int i = 0; i < 3; i++) {
                view[4 * i + 3] = Fixed.bound(-Fixed.along(view, i, viewer[0], viewer[1], viewer[2]));
            }
        }

        private void swapAcross(int a, int b) {
            int kept = view[a];
            view[a] = view[b];
            view[b] = kept;
        }

        /** Nodes come by their numbers, so that equal ones stay so. */
        private void queue(int node) {
            int at = seen;
            while (at > 0 && goesBefore(node, order[at - 1])) {
                order[at] = order[at - 1];
                at--;
            }
            order[at] = node;
            seen++;
        }

        private boolean goesBefore(int a, int b) {
            boolean solid = scene.materialOf(a)[CLEARNESS] == SOLID;
            if (solid != (scene.materialOf(b)[CLEARNESS] == SOLID)) {
                return solid;
            }
            return solid ? sights[a][11] < sights[b][11] : sights[a][11] > sights[b][11];
        }

        int nodeNumber() {
            return order[place];
        }

        int materialNumber() {
            return scene.meshes[scene.nodes[order[place]].mesh].material;
        }

        /** On to the next piece that is not nothing; false if none is left. */
        boolean nextPiece() {
            for (int n = 0; n < MOST_FACES * MOST_CORNERS; n++) {
                second++;
                if (second + 1 >= cornerCount) {
                    if (!nextFace()) {
                        return false;
                    }
                    second = 1;
                }
                if (piece.take(corners, second, scene.materials[materialNumber()][BOTH] == 1)) {
                    return true;
                }
            }
            return false;
        }

        /** On to the next face of which something is left; false if there is none. */
        private boolean nextFace() {
            for (; place < seen; place++) {
                Mesh mesh = scene.meshes[scene.nodes[order[place]].mesh];
                if (face < 0) {
                    standPoints(mesh);
                }
                for (face++; face < mesh.faceCount; face++) {
                    cutFace(mesh);
                    if (cornerCount >= 3) {
                        return true;
                    }
                }
                face = -1;
            }
            return false;
        }

        private void standPoints(Mesh mesh) {
            int[] sighted = sights[order[place]];
            int[] placing = scene.nodes[order[place]].placing;
            int[] points = mesh.points;
            for (int p = 0; p < mesh.pointCount; p++) {
                for (int i = 0; i < 3; i++) {
                    long moved = Fixed.along(sighted, i, points[3 * p], points[3 * p + 1], points[3 * p + 2]);
                    stood[4 * p + i] = Fixed.bound(moved + sighted[4 * i + 3]);
                }
                stood[4 * p + 3] = lightOf(placing, mesh.normals, 3 * p);
            }
        }

        private int lightOf(int[] placing, int[] normals, int at) {
            long d = 0;
            for (int i = 0; i < 3; i++) {
                long n = Fixed.along(placing, i, normals[at], normals[at + 1], normals[at + 2]);
                d += Fixed.mul(Fixed.bound(n), scene.lamp[i]);
            }
            return (int) Math.min(ONE, scene.lamp[AMBIENT] + Math.max(d, 0));
        }

        private void cutFace(Mesh mesh) {
            for (int k = 0; k < 3; k++) {
                int point = mesh.faces[3 * face + k];
                System.arraycopy(stood, 4 * point, corners, CORNER * k, 3);
                corners[CORNER * k + 3] = mesh.places[2 * point];
                corners[CORNER * k + 4] = mesh.places[2 * point + 1];
                corners[CORNER * k + 5] = stood[4 * point + 3];
            }
            cornerCount = 3;
            for (int side = 0; side < 5 && cornerCount >= 3; side++) {
                cutBySide(side);
            }
            projectCorners();
        }

        private void cutBySide(int side) {
            long first = sideOf(side, 0);
            long here = first;
            int kept = 0;
            for (int k = 0; k < cornerCount && kept + 2 <= MOST_CORNERS; k++) {
                int next = k + 1 < cornerCount ? k + 1 : 0;
                long there = next == 0 ? first : sideOf(side, next);
                if (here >= 0) {
                    System.arraycopy(corners, CORNER * k, cutCorners, CORNER * kept, CORNER);
                    kept++;
                }
                if (here >= 0 && there < 0) {
                    putBetween(CORNER * k, here, CORNER * next, there, CORNER * kept);
                    kept++;
                } else if (here < 0 && there >= 0) {
                    putBetween(CORNER * next, there, CORNER * k, here, CORNER * kept);
                    kept++;
                }
                here = there;
            }
            int[] cut = cutCorners;
            cutCorners = corners;
            corners = cut;
            cornerCount = kept;
        }

        private long sideOf(int side, int corner) {
            long z = corners[CORNER * corner + 2];
            if (side == 0) {
                return z - 4096;
            }
            long across = (long) scene.viewer[FOCUS] * corners[CORNER * corner + (side < 3 ? 0 : 1)];
            long reach = (side < 3 ? width : height) * z;
            return side == 1 || side == 3 ? reach + across : reach - across;
        }

        private void putBetween(int p, long a, int q, long b, int to) {
            long whole = Math.max(1, a - b);
            for (int i = 0; i < CORNER; i++) {
                long change = corners[q + i] - corners[p + i];
                cutCorners[to + i] = (int) (corners[p + i] + Math.floorDiv(change * a, whole));
            }
        }

        /** Where x, y, z stood, X, Y, r stand from then on. */
        private void projectCorners() {
            long scale = 16L * scene.viewer[FOCUS];
            for (int at = 0; at < CORNER * cornerCount; at += CORNER) {
                long z = corners[at + 2];
                corners[at] = (int) Fixed.div(scale * corners[at], z) + 8 * width;
                corners[at + 1] = (int) Fixed.div(scale * corners[at + 1], z) + 8 * height;
                corners[at + 2] = (int) Fixed.div(4294967296L, z);
            }
        }
    }

    /** One piece: three corners of X, Y, r, u, v, l. */
    private static final class Piece {
        private static final int SECOND = CORNER;
        private static final int THIRD = 2 * CORNER;

        long area;
        private final int[] row = new int[PIECE];
        private long w0;
        private long w1;
        private long w2;
        private long h;

        /** Takes the corners 0, k, k + 1; false if that piece is nothing. */
        boolean take(int[] corners, int k, boolean both) {
            System.arraycopy(corners, 0, row, 0, CORNER);
            System.arraycopy(corners, CORNER * k, row, SECOND, 2 * CORNER);
            area = cross(0, 1);
            if (area < 0 && both) {
                System.arraycopy(corners, CORNER * k, row, THIRD, CORNER);
                System.arraycopy(corners, CORNER * (k + 1), row, SECOND, CORNER);
                area = -area;
            }
            return area > 0;
        }

        void keepAt(int[] rows, int at) {
            System.arraycopy(row, 0, rows, at, PIECE);
        }

        void takeAt(int[] rows, int at) {
            System.arraycopy(rows, at, row, 0, PIECE);
            area = cross(0, 1);
        }

        private long cross(int i, int j) {
            long across = (long) (row[SECOND + i] - row[i]) * (row[THIRD + j] - row[j]);
            return across - (long) (row[THIRD + i] - row[i]) * (row[SECOND + j] - row[j]);
        }

        /** How far its places spread, whatever way round. */
        long spread() {
            return Math.abs(cross(3, 4));
        }

        /** The first pixel, by column (i is 0) or row (1), whose middle the piece can reach. */
        int firstPixel(int i) {
            int least = Math.min(row[i], Math.min(row[SECOND + i], row[THIRD + i]));
            return least + 7 >> 4;
        }

        int lastPixel(int i) {
            int most = Math.max(row[i], Math.max(row[SECOND + i], row[THIRD + i]));
            return most - 8 >> 4;
        }

        boolean mayCover(int i, int j) {
            return i >= firstPixel(0) && i <= lastPixel(0) && j >= firstPixel(1) && j <= lastPixel(1);
        }

        /** If it does, near and mixed tell of that pixel from then on. */
        boolean covers(int i, int j) {
            int x = 16 * i + 8;
            int y = 16 * j + 8;
            w0 = edge(SECOND, THIRD, x, y);
            if (w0 < 0 || w0 == 0 && !ownsEdge(SECOND, THIRD)) {
                return false;
            }
            w1 = edge(THIRD, 0, x, y);
            if (w1 < 0 || w1 == 0 && !ownsEdge(THIRD, 0)) {
                return false;
            }
            w2 = edge(0, SECOND, x, y);
            if (w2 < 0 || w2 == 0 && !ownsEdge(0, SECOND)) {
                return false;
            }
            w0 *= row[2];
            w1 *= row[SECOND + 2];
            w2 *= row[THIRD + 2];
            h = w0 + w1 + w2;
            return true;
        }

        private long edge(int a, int b, int x, int y) {
            return (long) (row[b] - row[a]) * (y - row[a + 1]) - (long) (row[b + 1] - row[a + 1]) * (x - row[a]);
        }

        private boolean ownsEdge(int a, int b) {
            return row[b + 1] < row[a + 1] || row[b + 1] == row[a + 1] && row[b] > row[a];
        }

        long near() {
            return Fixed.div(h, area);
        }

        /** The corners' numbers i (3: u, 4: v, 5: l) as they mix at the pixel. */
        long mixed(int i) {
            return Fixed.div(w0 * row[i] + w1 * row[SECOND + i] + w2 * row[THIRD + i], h);
        }
    }

    /** The picture that began, its pieces as they were then, and its tiles. */
    private static final class Picture {
        private static final int WHITE = 0xFFFFFF;

        final int tiles;
        final int[] colours;
        final int[] nears;
        /** The scene that it was taken of; a later load leaves its textures and materials alone. */
        Scene scene;
        private final int width;
        private final int height;
        private final int across;
        private int ground;
        /** The corners of each piece that is not nothing, and its material: room for all that can be there. */
        private final int[] pieces = new int[MOST_PIECES * PIECE];
        private final byte[] kinds = new byte[MOST_PIECES];
        private int pieceCount;
        private final Piece piece = new Piece();
        private boolean begun;
        private long done;
        /** The tile that is drawn. */
        private int left;
        private int top;
        private int right;
        private int bottom;

        Picture(int width, int height) {
            this.width = width;
            this.height = height;
            across = (width + 7) / 8;
            tiles = across * ((height + 7) / 8);
            colours = new int[width * height];
            nears = new int[width * height];
        }

        void start(Scene now, int background) {
            scene = now;
            ground = background;
            begun = true;
            done = 0;
            pieceCount = 0;
        }

        /** Further ones than the document lets be there are nothing. */
        void keep(Piece next, int material) {
            if (pieceCount < MOST_PIECES) {
                next.keepAt(pieces, PIECE * pieceCount);
                kinds[pieceCount] = (byte) material;
                pieceCount++;
            }
        }

        boolean lacks(int k) {
            return begun && k >= 0 && k < tiles && (done >> k & 1) == 0;
        }

        boolean shows(int x, int y) {
            return begun && (done >> (y / 8 * across + x / 8) & 1) == 1;
        }

        boolean isWhole() {
            return begun && done == (1L << tiles) - 1;
        }

        void drawTile(int k) {
            left = k % across * 8;
            top = k / across * 8;
            right = Math.min(left + 8, width) - 1;
            bottom = Math.min(top + 8, height) - 1;
            wipe();
            for (int n = 0; n < pieceCount; n++) {
                piece.takeAt(pieces, PIECE * n);
                drawPiece(scene.materials[kinds[n]]);
            }
            done |= 1L << k;
        }

        private void wipe() {
            for (int y = top; y <= bottom; y++) {
                for (int x = left; x <= right; x++) {
                    colours[y * width + x] = ground;
                    nears[y * width + x] = 0;
                }
            }
        }

        private void drawPiece(int[] material) {
            int firstX = Math.max(left, piece.firstPixel(0));
            int lastX = Math.min(right, piece.lastPixel(0));
            int firstY = Math.max(top, piece.firstPixel(1));
            int lastY = Math.min(bottom, piece.lastPixel(1));
            if (firstX > lastX || firstY > lastY) {
                return;
            }
            Texture texture = material[TEXTURE] < 0 ? null : scene.textures[material[TEXTURE]];
            int level = texture == null ? 0 : texture.levelFor(piece.spread(), piece.area);
            for (int y = firstY; y <= lastY; y++) {
                for (int x = firstX; x <= lastX; x++) {
                    int at = y * width + x;
                    if (piece.covers(x, y) && piece.near() > nears[at]) {
                        int texel = WHITE;
                        if (texture != null) {
                            texel = texture.colourAt(level, piece.mixed(3), piece.mixed(4));
                        }
                        drawPixel(at, material, texel);
                    }
                }
            }
        }

        private void drawPixel(int at, int[] material, int texel) {
            int light = (int) piece.mixed(5);
            int clearness = material[CLEARNESS];
            int old = colours[at];
            int drawn = 0;
            for (int i = 0; i < 3; i++) {
                int shift = 16 - 8 * i;
                int part = (texel >> shift & 255) * material[i] / 255 * light >> 16;
                if (clearness < SOLID) {
                    part = (part * clearness + (old >> shift & 255) * (SOLID - clearness)) / 255;
                }
                drawn |= part << shift;
            }
            colours[at] = drawn;
            if (clearness == SOLID) {
                nears[at] = (int) piece.near();
            }
        }
    }

    /** Puts a picture out as THE FILE. */
    private static final class Packer {
        private static final int KEYS = 4096;
        private static final int MOST_RAW = 3 * MOST_SIDE * MOST_SIDE;
        private static final int MOST_ROWS = MOST_RAW + MOST_SIDE;
        private static final int LONGEST_RUN = 258;

        /** 9 bits for each byte of the rows at the most, and what stands round them. */
        final byte[] out = new byte[MOST_ROWS + MOST_ROWS / 8 + 128];
        int size;
        private final int[] raw = new int[MOST_RAW];
        private final int[] rows = new int[MOST_ROWS];
        private int rowsSize;
        /** The latest place whose three bytes have a key, and for each place the one before it with its key. */
        private final int[] latest = new int[KEYS];
        private final int[] earlier = new int[MOST_ROWS];
        private int runLength;
        private int runBack;
        private int held;
        private int heldBits;

        void write(int[] colours, int width, int height) {
            makeRaw(colours, width * height);
            makeRows(3 * width, height);
            size = 0;
            putNumber(0x89504E47);
            putNumber(0x0D0A1A0A);
            int start = openChunk("IHDR");
            putNumber(width);
            putNumber(height);
            putNumber(0x08020000);
            putByte(0);
            closeChunk(start);
            start = openChunk("IDAT");
            putByte(120);
            putByte(1);
            packRows();
            putNumber(sumOfRows());
            closeChunk(start);
            closeChunk(openChunk("IEND"));
        }

        private void makeRaw(int[] colours, int pixels) {
            for (int i = 0; i < pixels; i++) {
                raw[3 * i] = colours[i] >> 16 & 255;
                raw[3 * i + 1] = colours[i] >> 8 & 255;
                raw[3 * i + 2] = colours[i] & 255;
            }
        }

        private void makeRows(int line, int height) {
            rowsSize = 0;
            for (int y = 0; y < height; y++) {
                int filter = bestFilter(y, line);
                rows[rowsSize] = filter;
                rowsSize++;
                for (int x = 0; x < line; x++) {
                    rows[rowsSize] = filtered(filter, x, y, line);
                    rowsSize++;
                }
            }
        }

        private int bestFilter(int y, int line) {
            int best = 0;
            int least = 256 * MOST_RAW;
            for (int filter = 0; filter < 5; filter++) {
                int sum = 0;
                for (int x = 0; x < line && sum < least; x++) {
                    int v = filtered(filter, x, y, line);
                    sum += Math.min(v, 256 - v);
                }
                if (sum < least) {
                    least = sum;
                    best = filter;
                }
            }
            return best;
        }

        private int filtered(int filter, int x, int y, int line) {
            int at = y * line + x;
            int a = x < 3 ? 0 : raw[at - 3];
            int b = y == 0 ? 0 : raw[at - line];
            int c = x < 3 || y == 0 ? 0 : raw[at - line - 3];
            return raw[at] - guess(filter, a, b, c) & 255;
        }

        private static int guess(int filter, int a, int b, int c) {
            switch (filter) {
                case 0:
                    return 0;
                case 1:
                    return a;
                case 2:
                    return b;
                case 3:
                    return (a + b) / 2;
                default:
                    return nearestOf(a, b, c);
            }
        }

        private static int nearestOf(int a, int b, int c) {
            int fromA = Math.abs(b - c);
            int fromB = Math.abs(a - c);
            int fromC = Math.abs(a + b - 2 * c);
            if (fromA <= fromB && fromA <= fromC) {
                return a;
            }
            return fromB <= fromC ? b : c;
        }

        private void putByte(int v) {
            if (size < out.length) {
                out[size] = (byte) v;
                size++;
            }
        }

        private void putNumber(int v) {
            putByte(v >> 24);
            putByte(v >> 16);
            putByte(v >> 8);
            putByte(v);
        }

        private int openChunk(String name) {
            int start = size;
            putNumber(0);
            for (int i = 0; i < name.length(); i++) {
                putByte(name.charAt(i));
            }
            return start;
        }

        private void closeChunk(int start) {
            int after = size;
            int crc = -1;
            for (int i = start + 4; i < after; i++) {
                crc = crcWith(crc, out[i] & 255);
            }
            size = start;
            putNumber(after - start - 8);
            size = after;
            putNumber(~crc);
        }

        private static int crcWith(int crc, int b) {
            int c = crc ^ b;
            for (int k = 0; k < 8; k++) {
                c = (c & 1) == 1 ? c >>> 1 ^ -306674912 : c >>> 1;
            }
            return c;
        }

        private int sumOfRows() {
            int a = 1;
            int b = 0;
            for (int i = 0; i < rowsSize; i++) {
                a = (a + rows[i]) % 65521;
                b = (b + a) % 65521;
            }
            return b << 16 | a;
        }

        private void packRows() {
            held = 0;
            heldBits = 0;
            for (int i = 0; i < KEYS; i++) {
                latest[i] = NONE;
            }
            putLowFirst(3, 3);
            int at = 0;
            while (at < rowsSize) {
                findRun(at);
                int after = at + 1;
                if (runLength >= 3) {
                    putLength(runLength);
                    putDistance(runBack);
                    after = at + runLength;
                } else {
                    putSign(rows[at]);
                }
                while (at < after) {
                    remember(at);
                    at++;
                }
            }
            putSign(256);
            putLowFirst(0, 8 - heldBits & 7);
        }

        /** From the nearest place on; the rows are shorter than the farthest distance, so that needs no look. */
        private void findRun(int at) {
            int most = Math.min(LONGEST_RUN, rowsSize - at);
            runLength = 0;
            if (most < 3) {
                return;
            }
            int place = latest[keyOf(at)];
            for (int tries = 0; tries < at && place >= 0 && runLength < most; tries++) {
                int length = sameFrom(place, at, most);
                if (length > runLength) {
                    runLength = length;
                    runBack = at - place;
                }
                place = earlier[place];
            }
        }

        private int sameFrom(int place, int at, int most) {
            int n = 0;
            while (n < most && rows[place + n] == rows[at + n]) {
                n++;
            }
            return n;
        }

        private void remember(int at) {
            if (at + 2 < rowsSize) {
                int key = keyOf(at);
                earlier[at] = latest[key];
                latest[key] = at;
            }
        }

        private int keyOf(int at) {
            return (rows[at] << 8 ^ rows[at + 1] << 4 ^ rows[at + 2]) & KEYS - 1;
        }

        private void putSign(int sign) {
            if (sign < 144) {
                putHighFirst(48 + sign, 8);
            } else if (sign < 256) {
                putHighFirst(400 + sign - 144, 9);
            } else if (sign < 280) {
                putHighFirst(sign - 256, 7);
            } else {
                putHighFirst(192 + sign - 280, 8);
            }
        }

        private void putLength(int n) {
            if (n < 11) {
                putSign(257 + n - 3);
                return;
            }
            if (n == LONGEST_RUN) {
                putSign(285);
                return;
            }
            int more = 1;
            int first = 11;
            while (more < 5 && n >= first + (4 << more)) {
                first += 4 << more;
                more++;
            }
            putSign(261 + 4 * more + (n - first >> more));
            putLowFirst(n - first, more);
        }

        private void putDistance(int d) {
            if (d < 5) {
                putHighFirst(d - 1, 5);
                return;
            }
            int more = 1;
            int first = 5;
            while (more < 13 && d >= first + (2 << more)) {
                first += 2 << more;
                more++;
            }
            putHighFirst(2 + 2 * more + (d - first >> more), 5);
            putLowFirst(d - first, more);
        }

        private void putHighFirst(int value, int bits) {
            for (int i = bits - 1; i >= 0; i--) {
                putBit(value >> i & 1);
            }
        }

        /** The lowest so many bits of the value; what stands above them is left out. */
        private void putLowFirst(int value, int bits) {
            for (int i = 0; i < bits; i++) {
                putBit(value >> i & 1);
            }
        }

        private void putBit(int bit) {
            held |= bit << heldBits;
            heldBits++;
            if (heldBits == 8 && size < out.length) {
                out[size] = (byte) held;
                size++;
                held = 0;
                heldBits = 0;
            }
        }
    }
}

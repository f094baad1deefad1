import java.util.NoSuchElementException;
import java.util.Random;

/** Runs of calls by chance, on Fresh and on the plain model: every answer must be the same. */
public final class AgainstPlainTest {
    /** So many calls as the largest picture's tiles, and a few more, are kept for what comes behind a load. */
    private static final int PICTURE_CALLS = 48;

    private final SceneMaker maker;
    private final int width;
    private final int height;
    private final String run;
    private Fresh box;
    private PlainBox plain;

    private AgainstPlainTest(int seed) {
        this(seed, 4, 52);
    }

    private AgainstPlainTest(int seed, int least, int most) {
        maker = new SceneMaker(new Random(seed));
        width = maker.from(least, most);
        height = maker.once(2) ? maker.from(8, Math.min(16, most)) : maker.from(least, most);
        run = "run " + seed + ": ";
        renew();
    }

    private void renew() {
        box = new Fresh(width, height);
        plain = new PlainBox(width, height);
    }

    private static int callsFor(String text) {
        return (text.length() + 19) / 20 + 2;
    }

    private void load(String text) {
        if (box.left() < callsFor(text) + PICTURE_CALLS) {
            renew();
        }
        put(text);
    }

    private void put(String text) {
        for (int[] row : Due.rowsOf(text)) {
            Due.is(run + "feed", box.feed(row[0], row[1], row[2], row[3], row[4]), plain.feed(row));
        }
        Due.is(run + "end", box.end(text.length()), plain.end(text.length()));
        long want;
        try {
            want = plain.load();
        } catch (IllegalArgumentException e) {
            want = Due.ILLEGAL_ARGUMENT;
        }
        Due.is(run + "load of " + text.replace("\n", "\\n"), Due.load(box), want);
        for (int what = -1; what <= 2; what++) {
            Due.is(run + "error(" + what + ") of " + text, box.error(what), plain.error(what));
        }
    }

    private void call() {
        if (box.left() < PICTURE_CALLS) {
            load(maker.right());
        }
        int node = maker.from(-1, Math.max(1, plain.count(3)));
        int[] n = {maker.from(-300000, 300000), maker.from(-300000, 300000), maker.from(-100000, 300000)};
        switch (maker.below(16)) {
            case 0: both("time", t(), (b, t) -> b.time(t), (p, t) -> p.time(t)); break;
            case 1: case 2: {
                int what = maker.from(-1, 3);
                int reach = maker.once(6) ? maker.reach(1048576) : n[0];
                Due.is(run + "set", box.set(node, what, n[1], reach, n[2]), plain.set(node, what, n[1], reach, n[2]));
                break;
            }
            case 3: {
                int parent = maker.from(-2, node + 1);
                Due.is(run + "hang", box.hang(node, parent), plain.hang(node, parent));
                break;
            }
            case 4: {
                boolean is = maker.once(3);
                Due.is(run + "hide", box.hide(node, is), plain.hide(node, is));
                break;
            }
            case 5: {
                int what = maker.from(-1, 3);
                int x = what == 2 ? maker.from(4, 80) : what == 1 ? maker.from(-500, 500) : n[0] / 4;
                Due.is(run + "camera", box.camera(what, x, n[1] / 8, n[2] / 8), plain.camera(what, x, n[1] / 8, n[2] / 8));
                break;
            }
            case 6: {
                int[] l = {maker.reach(65536), maker.reach(65537), maker.reach(65536), maker.from(-9, 65536)};
                Due.is(run + "light", box.light(l[0], l[1], l[2], l[3]), plain.light(l[0], l[1], l[2], l[3]));
                break;
            }
            case 7: {
                int[] c = {maker.from(0, 255), maker.from(0, 256), maker.from(-1, 255)};
                Due.is(run + "background", box.background(c[0], c[1], c[2]), plain.background(c[0], c[1], c[2]));
                break;
            }
            case 8: case 9: worldOf(node); break;
            case 10: picture(); break;
            case 11: load(maker.once(2) ? maker.right() : maker.wrong()); break;
            case 12: {
                int k = maker.from(-1, 36);
                Due.is(run + "tile", box.tile(k), plain.tile(k));
                break;
            }
            case 13: file(); break;
            default: pick(maker.from(-1, plain.width), maker.from(-1, plain.height)); break;
        }
        for (int what = -1; what <= 6; what++) {
            Due.is(run + "count(" + what + ")", box.count(what), plain.count(what));
        }
    }

    private int t() {
        return maker.once(10) ? maker.from(-1, 1000001) : maker.from(0, 900);
    }

    private interface OnBox {
        boolean of(Fresh box, int t);
    }

    private interface OnPlain {
        boolean of(PlainBox box, int t);
    }

    private void both(String name, int t, OnBox onBox, OnPlain onPlain) {
        Due.is(run + name + "(" + t + ")", onBox.of(box, t), onPlain.of(plain, t));
    }

    private void worldOf(int node) {
        for (int i = -1; i <= 3; i++) {
            for (int j = -1; j <= 4; j++) {
                long want;
                try {
                    want = plain.world(node, i, j);
                } catch (NoSuchElementException e) {
                    want = Due.NO_SUCH_ELEMENT;
                }
                Due.is(run + "world(" + node + ", " + i + ", " + j + ")", Due.world(box, node, i, j), want);
            }
        }
    }

    private void pick(int x, int y) {
        Due.is(run + "pick(" + x + ", " + y + ")", box.pick(x, y), plain.pick(x, y));
        Due.is(run + "picked()", box.picked(), plain.picked());
    }

    private void picture() {
        int tiles = plain.begin();
        Due.is(run + "begin()", box.begin(), tiles);
        boolean some = maker.once(4);
        String next = maker.right();
        if (maker.once(2) && box.left() >= callsFor(next) + PICTURE_CALLS) {
            put(next);
        }
        if (maker.once(3)) {
            Due.is(run + "background", box.background(1, 2, 3), plain.background(1, 2, 3));
        }
        int first = maker.below(tiles);
        for (int i = 0; i < tiles; i++) {
            int k = (first + i) % tiles;
            if (!some || maker.once(2)) {
                Due.is(run + "tile(" + k + ")", box.tile(k), plain.tile(k));
            }
        }
        for (int y = -1; y <= plain.height; y++) {
            for (int x = -1; x <= plain.width; x++) {
                Due.is(run + "pixel(" + x + ", " + y + ")", box.pixel(x, y), plain.pixel(x, y));
                Due.is(run + "nearness(" + x + ", " + y + ")", box.nearness(x, y), plain.nearness(x, y));
            }
        }
    }

    private void somePicks() {
        for (int i = 0; i < 8; i++) {
            pick(maker.below(plain.width), maker.below(plain.height));
        }
    }

    private void file() {
        int size = plain.file();
        Due.is(run + "file()", box.file(), size);
        for (int k = -1; k <= Math.max(size, 60); k++) {
            Due.is(run + "byteAt(" + k + ")", box.byteAt(k), plain.byteAt(k));
        }
    }

    public static void main(String[] args) {
        int runs = args.length > 0 ? Integer.parseInt(args[0]) : 100;
        int from = args.length > 1 ? Integer.parseInt(args[1]) : 0;
        for (int seed = from; seed < from + runs && Due.failures() < 50; seed++) {
            AgainstPlainTest test = new AgainstPlainTest(seed);
            test.load(test.maker.right());
            test.picture();
            test.file();
            test.somePicks();
            for (int i = 0; i < 60; i++) {
                test.call();
            }
            for (int i = 0; i < 30; i++) {
                test.load(test.maker.wrong());
            }
            test.load(test.maker.tiny());
            test.picture();
            test.somePicks();
            test.load(test.maker.large());
            test.box.camera(2, 2 * test.plain.width, 0, 0);
            test.plain.camera(2, 2 * test.plain.width, 0, 0);
            test.picture();
            test.somePicks();
        }
        for (int seed = from; seed < from + 2; seed++) {
            AgainstPlainTest test = new AgainstPlainTest(seed, 16, 16);
            test.load(test.maker.most());
            test.picture();
            test.somePicks();
        }
        for (int seed = from; seed < from + 16; seed++) {
            AgainstPlainTest test = new AgainstPlainTest(seed, 8, 8);
            test.load(test.maker.nine(seed % 4 == 0 ? 48 : 2));
            test.picture();
            test.somePicks();
        }
        Due.close("AgainstPlainTest");
    }
}

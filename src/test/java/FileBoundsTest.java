import java.util.ArrayList;
import java.util.List;
import java.util.Random;
import java.util.TreeSet;
import java.util.zip.Adler32;
import java.util.zip.CRC32;

/**
 * The sentences on THE FILE that name a boundary. A file is read here sign by sign, and each sign and each row is held
 * against the document's rule: the longest run, the nearest of them, the filter with the least sum, the least one at a tie.
 */
public final class FileBoundsTest {
    private static final TreeSet<Integer> LENGTHS = new TreeSet<>();
    private static final TreeSet<Integer> DISTANCES = new TreeSet<>();
    private static final TreeSet<Integer> FILTERS = new TreeSet<>();
    private static final TreeSet<Integer> BYTES = new TreeSet<>();

    private final Fresh box;
    private final int width;
    private final int height;
    private final String name;
    private final int[] colours;
    private int[] bytes;
    private int at;
    private final List<Integer> rows = new ArrayList<>();

    private FileBoundsTest(String name, Fresh box, int width, int height) {
        this.name = name + ": ";
        this.box = box;
        this.width = width;
        this.height = height;
        colours = new int[width * height];
        for (int i = 0; i < colours.length; i++) {
            colours[i] = box.pixel(i % width, i / width);
        }
    }

    private static void check(String name, Fresh box, int width, int height) {
        new FileBoundsTest(name, box, width, height).whole();
    }

    /** "137 80 78 71 13 10 26 10, then CHUNKS"; nothing is behind the last one. */
    private void whole() {
        int size = box.file();
        bytes = new int[size];
        for (int k = 0; k < size; k++) {
            bytes[k] = box.byteAt(k);
        }
        int[] head = {137, 80, 78, 71, 13, 10, 26, 10};
        for (int k = 0; k < 8; k++) {
            Due.is(name + "head", bytes[k], head[k]);
        }
        int end = chunk(8, "IHDR");
        Due.is(name + "IHDR", end, 33);
        Due.is(name + "width", number(16), width);
        Due.is(name + "height", number(20), height);
        Due.is(name + "8 2 0 0", number(24), 0x08020000);
        Due.is(name + "0", bytes[28], 0);
        int last = chunk(end, "IDAT");
        data(end + 8, last - 4);
        Due.is(name + "IEND has none", number(last), 0);
        Due.is(name + "nothing is behind it", chunk(last, "IEND"), size);
    }

    private int number(int k) {
        return bytes[k] << 24 | bytes[k + 1] << 16 | bytes[k + 2] << 8 | bytes[k + 3];
    }

    private int chunk(int from, String due) {
        int length = number(from);
        CRC32 crc = new CRC32();
        for (int k = 0; k < length + 4; k++) {
            crc.update(bytes[from + 4 + k]);
            if (k < 4) {
                Due.is(name + due, bytes[from + 4 + k], due.charAt(k));
            }
        }
        Due.is(name + "CRC of " + due, number(from + 8 + length), (int) crc.getValue());
        return from + 12 + length;
    }

    private void data(int from, int to) {
        Due.is(name + "120", bytes[from], 120);
        Due.is(name + "1", bytes[from + 1], 1);
        at = 8 * (from + 2);
        Due.is(name + "1, 1, 0", low(3), 3);
        for (int sign = sign(); sign != 256; sign = sign()) {
            if (sign < 256) {
                isNoRun();
                rows.add(sign);
                BYTES.add(sign);
            } else {
                run(lengthOf(sign), distance());
            }
        }
        Due.is(name + "rows", rows.size(), height * (3 * width + 1));
        Due.is(name + "0s up to a whole byte", low(-at & 7), 0);
        Due.is(name + "where the SUM is", at / 8, to - 4);
        Adler32 sum = new Adler32();
        rows.forEach(sum::update);
        Due.is(name + "SUM", number(to - 4), (int) sum.getValue());
        rowsAreDue();
        runsAreDue();
    }

    private int bit() {
        int bit = bytes[at / 8] >> (at % 8) & 1;
        at++;
        return bit;
    }

    private int low(int n) {
        int value = 0;
        for (int i = 0; i < n; i++) {
            value |= bit() << i;
        }
        return value;
    }

    private int high(int more, int n) {
        int value = more;
        for (int i = 0; i < n; i++) {
            value = value << 1 | bit();
        }
        return value;
    }

    /** 7 bits below 24: 256 .. 279; 8 bits from 48 on: 0 .. 143, from 192 on: 280 .. 287; 9 bits from 400 on: 144 .. 255. */
    private int sign() {
        int seven = high(0, 7);
        if (seven < 24) {
            return 256 + seven;
        }
        int eight = high(seven, 1);
        if (eight < 192) {
            return eight - 48;
        }
        if (eight < 200) {
            return 280 + eight - 192;
        }
        return 144 + high(eight, 1) - 400;
    }

    private int lengthOf(int sign) {
        if (sign < 265) {
            return sign - 254;
        }
        if (sign == 285) {
            return 258;
        }
        int bits = (sign - 261) / 4;
        int length = 3 + ((4 + (sign - 265) % 4) << bits) + low(bits);
        Due.is(name + "258 is 285", length < 258, true);
        return length;
    }

    private int distance() {
        int k = high(0, 5);
        return k < 4 ? k + 1 : 1 + ((2 + k % 2) << (k / 2 - 1)) + low(k / 2 - 1);
    }

    private record Run(int at, int length, int distance) {
    }

    private final List<Run> runs = new ArrayList<>();

    private void isNoRun() {
        runs.add(new Run(rows.size(), 0, 0));
    }

    private void run(int length, int distance) {
        Due.is(name + "not before the first byte", distance <= rows.size(), true);
        runs.add(new Run(rows.size(), length, distance));
        LENGTHS.add(length);
        DISTANCES.add(distance);
        for (int i = 0; i < length; i++) {
            rows.add(rows.get(rows.size() - distance));
        }
    }

    /** "the longest such run, at most 258 and up to the rows' end, .. of places with runs of that length the nearest". */
    private void runsAreDue() {
        int[] r = rows.stream().mapToInt(n -> n).toArray();
        for (Run run : runs) {
            int longest = 2;
            int nearest = 0;
            for (int place = run.at - 1; place >= 0 && longest < 258; place--) {
                int n = 0;
                while (n < 258 && run.at + n < r.length && r[place + n] == r[run.at + n]) {
                    n++;
                }
                if (n > longest) {
                    longest = n;
                    nearest = run.at - place;
                }
            }
            Due.is(name + "length at " + run.at, run.length, longest < 3 ? 0 : longest);
            Due.is(name + "distance at " + run.at, run.distance, nearest);
        }
    }

    private int byteOf(int x, int y) {
        return x < 0 || y < 0 ? 0 : colours[y * width + x / 3] >> (16 - 8 * (x % 3)) & 255;
    }

    private int less(int filter, int x, int y) {
        int a = byteOf(x - 3, y);
        int b = byteOf(x, y - 1);
        int c = x < 3 ? 0 : byteOf(x - 3, y - 1);
        int guess = filter == 1 ? a : filter == 2 ? b : filter == 3 ? (a + b) / 2 : 0;
        if (filter == 4) {
            int p = a + b - c;
            guess = Math.abs(p - c) < Math.min(Math.abs(p - a), Math.abs(p - b)) ? c : Math.abs(p - b) < Math.abs(p - a) ? b : a;
        }
        return byteOf(x, y) - guess & 255;
    }

    /** "f is the one of 0 .. 4 whose bytes have the least sum .. the least f at a tie". */
    private void rowsAreDue() {
        for (int y = 0; y < height; y++) {
            int best = -1;
            int least = 0;
            for (int filter = 0; filter < 5; filter++) {
                int sum = 0;
                for (int x = 0; x < 3 * width; x++) {
                    int v = less(filter, x, y);
                    sum += v <= 128 ? v : 256 - v;
                }
                if (best < 0 || sum < least) {
                    best = filter;
                    least = sum;
                }
            }
            int from = y * (3 * width + 1);
            Due.is(name + "filter of row " + y, rows.get(from), best);
            FILTERS.add(best);
            for (int x = 0; x < 3 * width; x++) {
                Due.is(name + "byte " + x + " of row " + y, rows.get(from + 1 + x), less(best, x, y));
            }
        }
    }

    // ---- pictures

    /** Rows of 0s alone: one byte, runs of 258, and what is left: a run of every length from 3 on, or one or two bytes. */
    private static void blackOnes() {
        TreeSet<Integer> left = new TreeSet<>();
        for (int i = 0; i < 41 * 41; i++) {
            int width = 8 + i % 41;
            int height = 8 + i / 41;
            if (left.add((height * (3 * width + 1) - 1) % 258)) {
                Fresh box = new Fresh(width, height);
                Due.drawAll(box);
                check("black " + width + " by " + height, box, width, height);
            }
        }
        Due.is("one byte was left", left.contains(1), true);
        Due.is("two bytes were left", left.contains(2), true);
        Due.is("none was left", left.contains(0), true);
    }

    /** Of one colour: the first row is least with a, the others with b; 128 counts 128, and 255 counts 1. */
    private static void plainOnes() {
        int[][] colours = {{255, 255, 255}, {128, 128, 128}, {127, 129, 128}, {1, 2, 3}, {143, 144, 145}, {0, 0, 1}};
        for (int[] c : colours) {
            Fresh box = new Fresh(9, 8);
            box.background(c[0], c[1], c[2]);
            Due.drawAll(box);
            check("plain " + c[0], box, 9, 8);
        }
    }

    /** One pixel has the same three bytes as another one: the second one's run comes from that far before. */
    private static void distances() {
        int[] due = {48, 49, 64, 65, 96, 97, 128, 129, 192, 193, 256, 257, 384, 385, 512, 513, 768, 769, 1024, 1025, 1536, 1537,
            2048, 2049, 3072, 3073, 4096, 4097, 6144, 6145, 6300};
        for (int d : due) {
            int width = 48;
            while (downFor(d, width) < 0) {
                width--;
            }
            int down = downFor(d, width);
            int across = (d - down * (3 * width + 1)) / 3;
            int x = across < 0 ? width - 1 : 0;
            Fresh box = new Fresh(width, 48);
            Due.load(box, Texts.scene("", Texts.material(200, 100, 150, 255, -1, 0), Texts.square(0, 4096),
                spot(x, 1, width) + "," + spot(x + across, 1 + down, width), ""));
            Due.drawAll(box);
            Due.is("the first pixel", box.pixel(x, 1) > 0, true);
            Due.is("the second pixel", box.pixel(x + across, 1 + down), box.pixel(x, 1));
            check("distance " + d, box, width, 48);
            Due.is("a distance of " + d + " was there", DISTANCES.contains(d), true);
        }
    }

    /** How many rows further down a pixel can be so many bytes behind another one; -1 if it can't. */
    private static int downFor(int d, int width) {
        for (int down = 0; down < 46; down++) {
            int rest = d - down * (3 * width + 1);
            if (rest % 3 == 0 && Math.abs(rest / 3) < width) {
                return down;
            }
        }
        return -1;
    }

    private static String spot(int x, int y, int width) {
        return Texts.node(-1, 0, 8192 * x + 4096 - width * 4096, 8192 * y + 4096 - 24 * 8192, 262144);
    }

    /** Textures by chance, of few colours or many, plain or softly mixed, straight or turned. */
    private static void noisyOnes() {
        Random chance = new Random(11);
        for (int run = 0; run < 24; run++) {
            int colours = new int[] {2, 3, 5, 16, 256, 256}[run % 6];
            StringBuilder texels = new StringBuilder();
            for (int i = 0; i < 768; i++) {
                texels.append(i == 0 ? "" : ",").append(chance.nextInt(colours) * 255 / (colours - 1));
            }
            int width = run % 4 == 0 ? 48 : 8 + chance.nextInt(41);
            int height = run % 4 == 0 ? 48 : 8 + chance.nextInt(41);
            Fresh box = new Fresh(width, height);
            Due.load(box, Texts.scene(Texts.texture(16, run % 3, run / 6 % 2, texels.toString()),
                Texts.material(255, 255, 255, 255, 0, 1), Texts.square(0, 131072), Texts.node(-1, 0, 0, 0, 174763), ""));
            if (run > 12) {
                box.set(0, 1, chance.nextInt(400), chance.nextInt(400), chance.nextInt(4096));
                box.light(0, 0, -65536, chance.nextInt(65536));
            }
            Due.drawAll(box);
            check("noise " + run, box, width, height);
        }
        harshOne(chance);
        for (int filter = 0; filter < 5; filter++) {
            Due.is("filter " + filter + " was there", FILTERS.contains(filter), true);
        }
        for (int v : new int[] {0, 1, 127, 128, 143, 144, 254, 255}) {
            Due.is("the byte " + v + " was there", BYTES.contains(v), true);
        }
        for (int d = 1; d <= 40; d++) {
            Due.is("a distance of " + d + " was there", DISTANCES.contains(d), true);
        }
    }

    /** A texel for each pixel, 0 or 128: rows whose sums are as great as can be, with every filter. */
    private static void harshOne(Random chance) {
        StringBuilder texels = new StringBuilder();
        for (int i = 0; i < 768; i++) {
            texels.append(i == 0 ? "" : ",").append(chance.nextInt(2) * 128);
        }
        String square = Texts.square(0, 196608).replace("[0,0,65536,0,65536,65536,0,65536]",
            "[-98304,-98304,98304,-98304,98304,98304,-98304,98304]");
        Fresh box = new Fresh(48, 48);
        Due.is("load", Due.load(box, Texts.scene(Texts.texture(16, 2, 0, texels.toString()),
            Texts.material(255, 255, 255, 255, 0, 1), square, Texts.node(-1, 0, 0, 0, 262144), "")), 1);
        Due.drawAll(box);
        check("harsh", box, 48, 48);
    }

    /** The first and the last length of every sign. */
    private static void allLengths() {
        for (int n = 3; n <= 19; n++) {
            Due.is("a run of " + n + " was there", LENGTHS.contains(n), true);
        }
        int first = 19;
        for (int bits = 2; bits <= 5; bits++) {
            for (int sign = 0; sign < 4; sign++) {
                int next = first + (1 << bits);
                Due.is("a run of " + first + " was there", LENGTHS.contains(first), true);
                Due.is("a run of " + (next - 1) + " was there", LENGTHS.contains(next - 1), true);
                first = next;
            }
        }
        Due.is("a run of 257 was there", LENGTHS.contains(257), true);
    }

    public static void main(String[] args) {
        blackOnes();
        plainOnes();
        distances();
        noisyOnes();
        allLengths();
        Due.close("FileBoundsTest");
    }
}

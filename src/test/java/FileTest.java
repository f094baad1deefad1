import java.util.zip.CRC32;
import java.util.zip.DataFormatException;
import java.util.zip.Inflater;

/** Promises 21 and 22: file and byteAt. */
public final class FileTest {
    private static byte[] bytesOf(Fresh box, int size) {
        byte[] bytes = new byte[size];
        for (int k = 0; k < size; k++) {
            bytes[k] = (byte) box.byteAt(k);
        }
        return bytes;
    }

    /** 200 bytes of 0: the byte itself, then a run of 199, one back; worked out bit by bit. */
    private static void blackOne() {
        Fresh box = new Fresh(8, 8);
        Due.is("no picture", box.file(), -1);
        box.begin();
        Due.is("no tile", box.file(), -1);
        Due.is("no file", box.byteAt(0), -1);
        box.tile(0);
        int[] due = {137, 80, 78, 71, 13, 10, 26, 10, 0, 0, 0, 13, 'I', 'H', 'D', 'R', 0, 0, 0, 8, 0, 0, 0, 8, 8, 2, 0, 0, 0,
            0x4B, 0x6D, 0x29, 0xDC, 0, 0, 0, 11, 'I', 'D', 'A', 'T', 120, 1, 99, 24, 38, 0, 0, 0, 200, 0, 1,
            0, 0, 0, 0, 0, 0, 0, 0, 'I', 'E', 'N', 'D', 0xAE, 0x42, 0x60, 0x82};
        Due.is("file", box.file(), 68);
        CRC32 crc = new CRC32();
        for (int k = 37; k < 52; k++) {
            crc.update(due[k]);
        }
        for (int k = 0; k < 4; k++) {
            due[52 + k] = (int) (crc.getValue() >> (24 - 8 * k)) & 255;
        }
        for (int k = 0; k < due.length; k++) {
            Due.is("byteAt(" + k + ")", box.byteAt(k), due[k]);
        }
        Due.is("byteAt(68)", box.byteAt(68), -1);
        Due.is("byteAt(-1)", box.byteAt(-1), -1);
        Due.is("byteAt(MIN)", box.byteAt(Integer.MIN_VALUE), -1);
        Due.is("byteAt(MAX)", box.byteAt(Integer.MAX_VALUE), -1);
        box.begin();
        Due.is("a new picture is not done", box.file(), -1);
        Due.is("the file stays", box.byteAt(67), 0x82);
        box.background(200, 0, 0);
        box.tile(0);
        Due.is("the file is as long", box.file(), 68);
        box.begin();
        box.tile(0);
        Due.is("byteAt stays until file()", box.byteAt(43), 99);
        Due.is("the file of a red one", box.file() > 68, true);
        Due.is("byteAt(67)", box.byteAt(67) >= 0, true);
    }

    /** Any reader of such files reads the picture's pixels: what is packed is opened by the library, rows by their filters. */
    private static void readByOthers(Fresh box, int width, int height) throws DataFormatException {
        byte[] rows = rowsOf(bytesOf(box, box.file()));
        Due.is("rows", rows.length, height * (3 * width + 1));
        int[][] picture = new int[height][3 * width];
        for (int y = 0; y < height; y++) {
            int filter = rows[y * (3 * width + 1)];
            for (int x = 0; x < 3 * width; x++) {
                int a = x < 3 ? 0 : picture[y][x - 3];
                int b = y == 0 ? 0 : picture[y - 1][x];
                int c = x < 3 || y == 0 ? 0 : picture[y - 1][x - 3];
                picture[y][x] = rows[y * (3 * width + 1) + 1 + x] + guess(filter, a, b, c) & 255;
            }
            for (int x = 0; x < width; x++) {
                int colour = picture[y][3 * x] << 16 | picture[y][3 * x + 1] << 8 | picture[y][3 * x + 2];
                Due.is("read pixel " + x + " " + y, colour, box.pixel(x, y));
            }
        }
    }

    private static int guess(int filter, int a, int b, int c) {
        int p = a + b - c;
        int pa = Math.abs(p - a);
        int pb = Math.abs(p - b);
        int pc = Math.abs(p - c);
        int nearest = pa <= pb && pa <= pc ? a : pb <= pc ? b : c;
        return new int[] {0, a, b, (a + b) / 2, nearest}[filter];
    }

    private static byte[] rowsOf(byte[] bytes) throws DataFormatException {
        int length = (bytes[33] & 255) << 24 | (bytes[34] & 255) << 16 | (bytes[35] & 255) << 8 | bytes[36] & 255;
        Inflater inflater = new Inflater();
        inflater.setInput(bytes, 41, length);
        byte[] rows = new byte[10000];
        int n = inflater.inflate(rows);
        Due.is("the packed bytes have their end", inflater.finished(), true);
        Due.is("all of them are used", inflater.getTotalIn(), length);
        return java.util.Arrays.copyOf(rows, n);
    }

    /** A texture of chance over the whole picture makes rows that hardly repeat. */
    private static void noisyOne() throws DataFormatException {
        java.util.Random chance = new java.util.Random(5);
        for (int soft = 0; soft < 2; soft++) {
            StringBuilder texels = new StringBuilder();
            for (int i = 0; i < 768; i++) {
                texels.append(i == 0 ? "" : ",").append(chance.nextInt(256));
            }
            Fresh box = new Fresh(48, 48);
            Due.is("load", Due.load(box, Texts.scene(Texts.texture(16, 0, soft, texels.toString()),
                Texts.material(255, 255, 255, 255, 0, 0), Texts.square(0, 131072), Texts.node(-1, 0, 0, 0, 174763), "")), 1);
            Due.drawAll(box);
            readByOthers(box, 48, 48);
            box.set(0, 1, 100, 200, 300);
            box.light(0, 0, -65536, 0);
            Due.drawAll(box);
            readByOthers(box, 48, 48);
        }
    }

    private static void plainOnes() throws DataFormatException {
        Fresh box = new Fresh(13, 29);
        Due.load(box, Texts.redSquare());
        box.background(12, 34, 56);
        Due.drawAll(box);
        readByOthers(box, 13, 29);
        box = new Fresh(48, 48);
        box.background(255, 255, 255);
        Due.drawAll(box);
        readByOthers(box, 48, 48);
    }

    /** Of a picture of one colour the first row is least with a, the next ones with b; ties go to the least filter. */
    private static void filters() throws DataFormatException {
        Fresh box = new Fresh(8, 8);
        box.background(1, 2, 3);
        Due.drawAll(box);
        byte[] rows = rowsOf(bytesOf(box, box.file()));
        int[] due = {1, 2, 2, 2, 2, 2, 2, 2};
        for (int y = 0; y < 8; y++) {
            Due.is("filter of row " + y, rows[25 * y], due[y]);
            for (int x = 0; x < 24; x++) {
                Due.is("byte " + x + " of row " + y, rows[25 * y + 1 + x], y == 0 && x < 3 ? x + 1 : 0);
            }
        }
    }

    public static void main(String[] args) throws DataFormatException {
        blackOne();
        noisyOne();
        plainOnes();
        filters();
        Due.close("FileTest");
    }
}

import java.io.ByteArrayOutputStream;
import java.nio.ByteBuffer;
import java.nio.charset.StandardCharsets;
import java.util.Arrays;
import java.util.zip.DataFormatException;
import java.util.zip.Inflater;

/** The README's example, line by line, and what it says of its answers. */
public final class ExampleTest {
    private static Fresh loaded() {
        String text = "{\"materials\":[{\"colour\":[255,0,0,255],\"texture\":-1,\"both\":0}],"
            + "\"meshes\":[{\"material\":0,\"points\":[-65536,-65536,0,65536,-65536,0,65536,65536,0,-65536,65536,0],"
            + "\"normals\":[0,0,-65536,0,0,-65536,0,0,-65536,0,0,-65536],\"places\":[0,0,0,0,0,0,0,0],"
            + "\"faces\":[0,1,2,0,2,3]}],"
            + "\"nodes\":[{\"parent\":-1,\"mesh\":0,\"move\":[0,0,262144],\"turn\":[0,0,0],\"size\":[65536,65536,65536]}],"
            + "\"tracks\":[{\"node\":0,\"what\":0,\"how\":1,\"times\":[0,100],\"values\":[0,0,262144,131072,0,262144]}]}";
        Fresh box = new Fresh(16, 16);
        byte[] bytes = Arrays.copyOf(text.getBytes(StandardCharsets.ISO_8859_1), (text.length() + 19) / 20 * 20);
        ByteBuffer numbers = ByteBuffer.wrap(bytes);
        while (numbers.hasRemaining()) {
            Due.is("feed", box.feed(numbers.getInt(), numbers.getInt(), numbers.getInt(), numbers.getInt(), numbers.getInt()),
                true);
        }
        Due.is("end", box.end(text.length()), true);
        Due.is("load", Due.load(box), 1);
        return box;
    }

    /** The square fills the picture at time 0, and is half its width further to the right at 50. */
    private static Fresh drawn() {
        Fresh box = loaded();
        Due.is("time", box.time(50), true);
        Due.is("background", box.background(0, 0, 64), true);
        int tiles = box.begin();
        Due.is("begin", tiles, 4);
        for (int k = 0; k < tiles; k++) {
            Due.is("tile", box.tile(k), true);
        }
        for (int i = 0; i < 256; i++) {
            boolean inside = i % 16 >= 8;
            Due.is("pixel " + i, box.pixel(i % 16, i / 16), inside ? 0xFF0000 : 64);
            Due.is("pick " + i, box.pick(i % 16, i / 16), inside ? 0 : -1);
            Due.is("picked " + i, box.picked() >= 0, inside);
        }
        return box;
    }

    private static byte[] fileOf(Fresh box) {
        byte[] png = new byte[box.file()];
        for (int k = 0; k < png.length; k++) {
            png[k] = (byte) box.byteAt(k);
        }
        Due.is("behind the file", box.byteAt(png.length), -1);
        return png;
    }

    /** What the file's rows are, as the library unpacks them. */
    private static byte[] rowsOf(byte[] png) throws DataFormatException {
        int size = ByteBuffer.wrap(png).getInt(33);
        Inflater inflater = new Inflater();
        inflater.setInput(png, 41, size);
        ByteArrayOutputStream rows = new ByteArrayOutputStream();
        byte[] some = new byte[4096];
        for (int n = inflater.inflate(some); n > 0; n = inflater.inflate(some)) {
            rows.write(some, 0, n);
        }
        Due.is("all unpacked", inflater.finished(), true);
        inflater.end();
        return rows.toByteArray();
    }

    public static void main(String[] args) throws DataFormatException {
        byte[] rows = rowsOf(fileOf(drawn()));
        Due.is("rows", rows.length, 16 * 49);
        // The first row is 0 0 64 and 255 0 0, each less the pixel to its left; further ones are as the row above.
        byte[] first = new byte[49];
        first[0] = 1;
        first[3] = 64;
        first[25] = -1;
        first[27] = -64;
        byte[] further = new byte[49];
        further[0] = 2;
        for (int y = 0; y < 16; y++) {
            byte[] due = y == 0 ? first : further;
            Due.is("row " + y, Arrays.equals(Arrays.copyOfRange(rows, 49 * y, 49 * y + 49), due), true);
        }
        Due.close("ExampleTest");
    }
}

import java.util.NoSuchElementException;

/** What the tests share: answers held against what is due, and texts put on the tape. */
final class Due {
    static final long ILLEGAL_ARGUMENT = Long.MAX_VALUE;
    static final long NO_SUCH_ELEMENT = Long.MAX_VALUE - 1;
    private static int passed;
    private static int failed;

    private Due() {
    }

    static void is(String what, long got, long want) {
        if (got == want) {
            passed++;
            return;
        }
        failed++;
        if (failed <= 50) {
            System.out.println(what + " answered " + got + ", due is " + want);
        }
    }

    static void is(String what, boolean got, boolean want) {
        is(what, got ? 1 : 0, want ? 1 : 0);
    }

    static int failures() {
        return failed;
    }

    /** The last line of every test; the exit code is 1 if an answer was not the one that is due. */
    static void close(String test) {
        System.out.println(test + ":");
        System.out.println(passed + " passed, " + failed + " failed");
        if (failed > 0 || passed == 0) {
            System.exit(1);
        }
    }

    static int[][] rowsOf(String text) {
        int[][] rows = new int[(text.length() + 19) / 20][5];
        for (int i = 0; i < text.length(); i++) {
            rows[i / 20][i / 4 % 5] |= (text.charAt(i) & 255) << (24 - 8 * (i % 4));
        }
        return rows;
    }

    static void tape(Fresh box, String text) {
        for (int[] row : rowsOf(text)) {
            box.feed(row[0], row[1], row[2], row[3], row[4]);
        }
        box.end(text.length());
    }

    /** What load answers, or ILLEGAL_ARGUMENT. */
    static long load(Fresh box) {
        try {
            return box.load();
        } catch (IllegalArgumentException e) {
            return ILLEGAL_ARGUMENT;
        }
    }

    static long load(Fresh box, String text) {
        tape(box, text);
        return load(box);
    }

    /** What world answers, or NO_SUCH_ELEMENT. */
    static long world(Fresh box, int node, int i, int j) {
        try {
            return box.world(node, i, j);
        } catch (NoSuchElementException e) {
            return NO_SUCH_ELEMENT;
        }
    }

    static void drawAll(Fresh box) {
        int tiles = box.begin();
        for (int k = 0; k < tiles; k++) {
            box.tile(k);
        }
    }
}

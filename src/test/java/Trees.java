/** Trees, and what they hold in words, that the tests of the edges have in common. */
final class Trees {
    static final int MOST_KEYS = 150;

    // Beside the nearest and the farthest: those that a shift, a byte or a short would take for good ones.
    static final int[] BELOW_0 = {-1, -2, -7, -8, -56, -63, -64, -255, -65535, Integer.MIN_VALUE + 1, Integer.MIN_VALUE};
    static final int[] ABOVE_8 = {9, 10, 15, 16, 17, 63, 64, 65, 72, 127, 128, 255, 256, 257, 65537, Integer.MAX_VALUE};
    static final int[] WRONG_LENGTHS = joined(BELOW_0, ABOVE_8);
    static final int[] WRONG_SIZES = joined(new int[] {0}, WRONG_LENGTHS);

    /** What some() holds. */
    static final String SOME = "5 keys: 00=07 20=ffffffffffffffff 2030=22 ff= ffffffffffffffff=05";
    /** What some() found last. */
    static final String SOME_FOUND = "2030";
    /** What some() held at its commit. */
    static final String SOME_KEPT = "3 keys: 20=1111 2030=22 80=";

    private Trees() {
    }

    static BlockTree some() {
        BlockTree t = new BlockTree();
        t.put(0x80, 1, 0, 0);
        t.put(0x2030, 2, 0x22, 1);
        t.put(0x20, 1, 0x1111, 2);
        t.commit();
        t.put(0x20, 1, -1, 8);
        t.remove(0x80, 1);
        t.put(-1, 8, 5, 1);
        t.put(0xff, 1, 0, 0);
        t.put(0, 1, 7, 1);
        t.seek(0x2000, 2);
        return t;
    }

    /** The keys 0, 2, 4 .. 298 of two bytes, each with itself as its text; put out of order. */
    static BlockTree full() {
        BlockTree t = new BlockTree();
        for (int i = 0; i < MOST_KEYS; i++) {
            // 7 and 150 have no common divisor, so each number comes once.
            long key = i * 7 % MOST_KEYS * 2;
            t.put(key, 2, key, 2);
        }
        return t;
    }

    static String found(BlockTree t) {
        int size = t.foundSize();
        long key = t.found();
        return size == 0 && key == 0 ? "nothing" : row(key, size);
    }

    /** All keys with their texts, found from the last one back; five calls for each. */
    static String held(BlockTree t) {
        int count = t.count();
        String rows = t.seek(-1, 8) ? keyWithText(t) : "";
        boolean more = t.before(-1, 8);
        for (int i = 0; more && i < MOST_KEYS; i++) {
            rows = keyWithText(t) + rows;
            more = t.before(t.found(), t.foundSize());
        }
        return count + " keys:" + rows;
    }

    private static String keyWithText(BlockTree t) {
        long key = t.found();
        int size = t.foundSize();
        return " " + row(key, size) + "=" + row(t.text(key, size), t.length(key, size));
    }

    /** All is as full() made it; 301 calls. */
    static void fullDue(Checks c, String after, BlockTree t) {
        c.due(after + ": count", MOST_KEYS, t.count());
        for (long key = 0; key < 2 * MOST_KEYS; key += 2) {
            c.due(after + ": length of " + key, 2, t.length(key, 2));
            c.due(after + ": text of " + key, key, t.text(key, 2));
        }
    }

    /** What does not count must be 0, so all of the number is written where it is not. */
    static String row(long bytes, int many) {
        if (many < 0 || many > 8 || lowest(bytes, many) != bytes) {
            return "(" + Long.toHexString(bytes) + " of " + many + ")";
        }
        String row = "";
        for (int i = many - 1; i >= 0; i--) {
            row += String.format("%02x", bytes >> 8 * i & 0xff);
        }
        return row;
    }

    static long lowest(long bytes, int many) {
        long all = 0;
        for (int i = many - 1; i >= 0; i--) {
            all = all << 8 | (bytes >> 8 * i & 0xff);
        }
        return all;
    }

    private static int[] joined(int[] one, int[] other) {
        int[] all = java.util.Arrays.copyOf(one, one.length + other.length);
        System.arraycopy(other, 0, all, one.length, other.length);
        return all;
    }
}

/** The document's terms: each sentence that names a boundary has a test of its own here. */
public final class EdgesOfTermsTest {
    private static final long KEY = 0x6261605f5e5d5c5bL;
    private static final int[] BYTES_IN_ORDER = {0x00, 0x01, 0x7e, 0x7f, 0x80, 0x81, 0xfe, 0xff};

    private static final Checks c = new Checks();

    public static void main(String[] args) {
        aKeyHas1To8Bytes();
        aTextHas0To8Bytes();
        ofAKeyTheLowestBytesCount();
        ofATextTheLowestBytesCount();
        theHighestOfTheseIsFirst();
        orderIsByteByByte();
        orderIsWithoutSigns();
        aBeginningIsBeforeTheLongerOne();
        thereAreAtMost150Keys();
        noneIsMinusOne();
        c.end();
    }

    private static void aKeyHas1To8Bytes() {
        c.sentence("Terms: a KEY is a row of 1 to 8 bytes");
        for (int size = 1; size <= 8; size++) {
            BlockTree t = new BlockTree();
            c.due("put of size " + size, true, t.put(KEY, size, size, 1));
            c.due("length of size " + size, 1, t.length(KEY, size));
            c.due("text of size " + size, size, t.text(KEY, size));
            c.due("seek of size " + size, true, t.seek(KEY, size));
            c.due("found of size " + size, Trees.row(Trees.lowest(KEY, size), size), Trees.found(t));
            c.due("remove of size " + size, true, t.remove(KEY, size));
        }
        for (int size : Trees.WRONG_SIZES) {
            BlockTree t = new BlockTree();
            c.due("put of size " + size, false, t.put(KEY, size, 1, 1));
            c.due("length of size " + size, BlockTree.NONE, t.length(KEY, size));
            c.due("all after size " + size, "0 keys:", Trees.held(t));
        }
    }

    private static void aTextHas0To8Bytes() {
        c.sentence("Terms: a TEXT is a row of 0 to 8 bytes");
        for (int length = 0; length <= 8; length++) {
            BlockTree t = new BlockTree();
            c.due("put of length " + length, true, t.put(1, 1, KEY, length));
            c.due("length", length, t.length(1, 1));
            c.due("text of length " + length, Trees.lowest(KEY, length), t.text(1, 1));
        }
        for (int length : Trees.WRONG_LENGTHS) {
            BlockTree t = new BlockTree();
            c.due("put of length " + length, false, t.put(1, 1, KEY, length));
            c.due("all after length " + length, "0 keys:", Trees.held(t));
        }
    }

    private static void ofAKeyTheLowestBytesCount() {
        c.sentence("Terms: how many of its lowest bytes count, for a key");
        for (int size = 1; size <= 8; size++) {
            for (int bit = 0; bit < 64; bit++) {
                oneBitOfAKey(size, bit);
            }
        }
    }

    private static void oneBitOfAKey(int size, int bit) {
        long other = KEY ^ 1L << bit;
        boolean same = bit >= 8 * size;
        String call = "size " + size + ", bit " + bit + ": ";
        BlockTree t = new BlockTree();
        t.put(KEY, size, 0x77, 1);
        c.due(call + "length", same ? 1 : BlockTree.NONE, t.length(other, size));
        c.due(call + "text", same ? 0x77 : 0, t.text(other, size));
        // The only key is found by seek if the other one is not later, by before if it is.
        boolean isLater = (KEY & 1L << bit) == 0;
        c.due(call + "seek", same || !isLater, t.seek(other, size));
        c.due(call + "before", !same && isLater, t.before(other, size));
        t.put(other, size, 0x88, 1);
        c.due(call + "count", same ? 1 : 2, t.count());
        c.due(call + "text of the first", same ? 0x88 : 0x77, t.text(KEY, size));
        c.due(call + "remove", true, t.remove(other, size));
        c.due(call + "count after remove", same ? 0 : 1, t.count());
    }

    private static void ofATextTheLowestBytesCount() {
        c.sentence("Terms: how many of its lowest bytes count, for a text");
        for (int length = 0; length <= 8; length++) {
            for (int bit = 0; bit < 64; bit++) {
                BlockTree t = new BlockTree();
                t.put(1, 1, 1L << bit, length);
                c.due("length " + length + ", bit " + bit, bit < 8 * length ? 1L << bit : 0, t.text(1, 1));
            }
        }
    }

    private static void theHighestOfTheseIsFirst() {
        c.sentence("Terms: the highest of these first");
        for (int size = 2; size <= 8; size++) {
            // The one begins with 1 and ends with 2, the other begins with 2 and ends with 1.
            int top = 8 * (size - 1);
            orderDue(1L << top | 2, size, 2L << top | 1, size);
        }
    }

    private static void orderIsByteByByte() {
        c.sentence("Terms: KEYS are in ORDER byte by byte");
        for (int at = 0; at < 8; at++) {
            int rest = 8 * (7 - at);
            long behind = at == 7 ? 0 : -1L >>> 64 - rest;
            long alike = at == 0 ? 0 : KEY >> rest + 8 << rest + 8;
            long one = alike | 0x41L << rest;
            long other = alike | 0x42L << rest;
            orderDue(one, 8, other, 8);
            orderDue(one | behind, 8, other, 8);
            // The byte that differs decides, not how long the keys are or what number they make.
            orderDue(one | behind, 8, other >> rest, at + 1);
            orderDue(one >> rest, at + 1, other, 8);
        }
        orderDue(0x0200, 2, 0x03, 1);
        orderDue(0x02, 1, 0x0300, 2);
    }

    private static void orderIsWithoutSigns() {
        c.sentence("Terms: without signs");
        for (int size = 1; size <= 8; size++) {
            for (int at = 0; at < size; at++) {
                for (int i = 1; i < BYTES_IN_ORDER.length; i++) {
                    orderDue(withByte(size, at, i - 1), size, withByte(size, at, i), size);
                }
                orderDue(withByte(size, at, 0), size, withByte(size, at, BYTES_IN_ORDER.length - 1), size);
            }
        }
        orderDue(0x7f, 1, 0x80, 1);
        orderDue(Long.MAX_VALUE, 8, Long.MIN_VALUE, 8);
        orderDue(0, 8, -1, 8);
        orderDue(0x7f, 1, -1, 8);
        orderDue(Long.MAX_VALUE, 8, 0x80, 1);
    }

    private static long withByte(int size, int at, int which) {
        int shift = 8 * (size - 1 - at);
        return Trees.lowest(KEY & ~(0xffL << shift) | (long) BYTES_IN_ORDER[which] << shift, size);
    }

    private static void aBeginningIsBeforeTheLongerOne() {
        c.sentence("Terms: a beginning of another one before it");
        for (int filler : BYTES_IN_ORDER) {
            long row = filler * 0x0101010101010101L;
            for (int size = 1; size < 8; size++) {
                for (int longer = size + 1; longer <= 8; longer++) {
                    orderDue(Trees.lowest(row, size), size, Trees.lowest(row, longer), longer);
                    // Zeros alone behind the beginning: the next key that there can be.
                    orderDue(Trees.lowest(row, size), size, Trees.lowest(row, size) << 8 * (longer - size), longer);
                }
            }
        }
        BlockTree t = new BlockTree();
        long[] keys = {0x62, 0x6100, 0x61, 0x61ff, 0x610000, 0x60ff, 0x61ff00};
        int[] sizes = {1, 2, 1, 2, 3, 2, 3};
        for (int i = 0; i < keys.length; i++) {
            t.put(keys[i], sizes[i], 0, 0);
        }
        c.due("all", "7 keys: 60ff= 61= 6100= 610000= 61ff= 61ff00= 62=", Trees.held(t));
    }

    private static void thereAreAtMost150Keys() {
        c.sentence("Terms: there are at most 150 keys with texts");
        BlockTree t = new BlockTree();
        for (int i = 1; i <= 200; i++) {
            c.due("put of the " + i + "th", i <= 150, t.put(i, 1, i, 1));
        }
        c.due("count", 150, t.count());
        // What is kept by a commit and what is new are not counted apart.
        t.commit();
        c.due("put after commit", false, t.put(200, 1, 0, 0));
        t.revert();
        c.due("put after revert", false, t.put(200, 1, 0, 0));
        c.due("count at the end", 150, t.count());
    }

    private static void noneIsMinusOne() {
        c.sentence("Terms: NONE = -1");
        c.due("NONE", -1, BlockTree.NONE);
    }

    /** The one is before the other, whichever of them was put first. */
    private static void orderDue(long one, int size, long other, int otherSize) {
        String a = Trees.row(one, size);
        String b = Trees.row(other, otherSize);
        for (int turn = 0; turn < 2; turn++) {
            BlockTree t = new BlockTree();
            t.put(turn == 0 ? one : other, turn == 0 ? size : otherSize, 0, 0);
            t.put(turn == 0 ? other : one, turn == 0 ? otherSize : size, 0, 0);
            c.due("all of two", "2 keys: " + a + "= " + b + "=", Trees.held(t));
            c.due(a + ", before", false, t.before(one, size));
            c.due(b + ", before", true, t.before(other, otherSize));
            c.due(b + ", found before it", a, Trees.found(t));
            c.due(a + ", seek", true, t.seek(one, size));
            c.due(a + ", found by seek", a, Trees.found(t));
            c.due(b + ", seek", true, t.seek(other, otherSize));
            c.due(b + ", found by seek", b, Trees.found(t));
        }
    }
}

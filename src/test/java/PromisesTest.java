/** Each promise of the document by itself: ordinary inputs, edges and wrong inputs. */
public final class PromisesTest {
    private static final int[] WRONG_KEY_SIZES = {0, 9, -1, 10, 64, Integer.MIN_VALUE, Integer.MAX_VALUE};
    private static final int[] WRONG_LENGTHS = {-1, 9, 10, 64, Integer.MIN_VALUE, Integer.MAX_VALUE};
    private static final int MOST_KEYS = 150;

    private static final Checks c = new Checks();

    public static void main(String[] args) {
        aNewObjectHasNoKeys();
        objectsShareNothing();
        putGivesAKeyItsText();
        putReplacesAText();
        putTellsKeysApartBySize();
        putLeavesOutWhatDoesNotCount();
        putTakesAllSizes();
        putRefusesWrongSizes();
        putRefusesThe151st();
        removeTakesAKeyAway();
        removeKnowsOnlyTheKeyItself();
        removeAtBothEndsAndInside();
        lengthOfAText();
        textAsItIsTold();
        seekFindsTheFirstNotBefore();
        beforeFindsTheLastBefore();
        orderIsWithoutSigns();
        aBeginningComesFirst();
        nothingIsFoundForWrongSizes();
        nothingIsFoundWhereNoneIs();
        foundIsAsItIsTold();
        foundStaysUntilTheNextSearch();
        countFollowsTheKeys();
        commitKeepsAll();
        commitKeepsWhatLaterChangesTouch();
        revertWithoutACommit();
        revertToTheLatestCommit();
        revertAgainAndAgain();
        revertMakesRoomAgain();
        c.end();
    }

    // Promise 1

    private static void aNewObjectHasNoKeys() {
        BlockTree t = new BlockTree();
        c.due("NONE", -1, BlockTree.NONE);
        c.due("new: count", 0, t.count());
        c.due("new: foundSize", 0, t.foundSize());
        c.due("new: found", 0, t.found());
        for (int size = 1; size <= 8; size++) {
            c.due("new: length", BlockTree.NONE, t.length(0, size));
            c.due("new: text", 0, t.text(0, size));
            c.due("new: remove", false, t.remove(0, size));
            c.due("new: seek", false, t.seek(0, size));
            c.due("new: before", false, t.before(-1, size));
        }
    }

    private static void objectsShareNothing() {
        BlockTree one = new BlockTree();
        BlockTree other = new BlockTree();
        one.put(1, 1, 1, 1);
        one.seek(1, 1);
        one.commit();
        c.due("other: count", 0, other.count());
        c.due("other: foundSize", 0, other.foundSize());
        other.revert();
        c.due("other: count after revert", 0, other.count());
    }

    // Promise 2

    private static void putGivesAKeyItsText() {
        BlockTree t = new BlockTree();
        c.due("put", true, t.put(0x6162, 2, 0x78797a, 3));
        c.due("put: count", 1, t.count());
        c.due("put: length", 3, t.length(0x6162, 2));
        c.due("put: text", 0x78797a, t.text(0x6162, 2));
    }

    private static void putReplacesAText() {
        BlockTree t = new BlockTree();
        t.put(5, 1, 0x1122334455667788L, 8);
        c.due("put again, shorter", true, t.put(5, 1, 9, 1));
        c.due("again: count", 1, t.count());
        c.due("again: length", 1, t.length(5, 1));
        c.due("again: text", 9, t.text(5, 1));
        c.due("put again, empty", true, t.put(5, 1, 9, 0));
        c.due("empty: length", 0, t.length(5, 1));
        c.due("empty: text", 0, t.text(5, 1));
        c.due("put again, longer", true, t.put(5, 1, -1, 8));
        c.due("longer: length", 8, t.length(5, 1));
        c.due("longer: text", -1, t.text(5, 1));
        c.due("longer: count", 1, t.count());
    }

    private static void putTellsKeysApartBySize() {
        BlockTree t = new BlockTree();
        for (int size = 1; size <= 8; size++) {
            c.due("put of zero bytes", true, t.put(0, size, size, 1));
        }
        c.due("zero bytes: count", 8, t.count());
        for (int size = 1; size <= 8; size++) {
            c.due("zero bytes: text", size, t.text(0, size));
        }
    }

    private static void putLeavesOutWhatDoesNotCount() {
        BlockTree t = new BlockTree();
        c.due("put with more bytes", true, t.put(0x7777777777777741L, 1, 0x55555555555555eeL, 1));
        c.due("more bytes: length", 1, t.length(0x41, 1));
        c.due("more bytes: text", 0xee, t.text(0x41, 1));
        c.due("more bytes: text by other ones", 0xee, t.text(-1L << 8 | 0x41, 1));
        c.due("put of the same key", true, t.put(0x9941, 1, 1, 1));
        c.due("same key: count", 1, t.count());
        c.due("remove by other bytes", true, t.remove(0x1241, 1));
        c.due("removed: count", 0, t.count());
    }

    private static void putTakesAllSizes() {
        for (int size = 1; size <= 8; size++) {
            for (int length = 0; length <= 8; length++) {
                BlockTree t = new BlockTree();
                long key = 0xfedcba9876543210L;
                long text = 0x8f9fafbfcfdfefffL;
                c.due("put of all sizes", true, t.put(key, size, text, length));
                c.due("all sizes: length", length, t.length(key, size));
                c.due("all sizes: text", lowest(text, length), t.text(key, size));
                c.due("all sizes: seek", true, t.seek(0, 1));
                c.due("all sizes: foundSize", size, t.foundSize());
                c.due("all sizes: found", lowest(key, size), t.found());
            }
        }
    }

    private static void putRefusesWrongSizes() {
        BlockTree t = new BlockTree();
        t.put(1, 1, 7, 1);
        t.seek(1, 1);
        for (int size : WRONG_KEY_SIZES) {
            c.due("put, size " + size, false, t.put(1, size, 2, 1));
            c.due("put, both wrong, size " + size, false, t.put(1, size, 2, 9));
        }
        for (int length : WRONG_LENGTHS) {
            c.due("put, length " + length, false, t.put(1, 1, 2, length));
            c.due("put of a new key, length " + length, false, t.put(2, 1, 2, length));
        }
        c.due("refused: count", 1, t.count());
        c.due("refused: length", 1, t.length(1, 1));
        c.due("refused: text", 7, t.text(1, 1));
        c.due("refused: foundSize", 1, t.foundSize());
        c.due("refused: found", 1, t.found());
    }

    private static void putRefusesThe151st() {
        BlockTree t = full();
        c.due("full: count", MOST_KEYS, t.count());
        c.due("the 151st, last", false, t.put(0xffff, 2, 1, 1));
        c.due("the 151st, first", false, t.put(0, 1, 1, 1));
        c.due("the 151st, inside", false, t.put(0x006400, 3, 1, 1));
        c.due("the 151st: length", BlockTree.NONE, t.length(0x006400, 3));
        c.due("the 151st: count", MOST_KEYS, t.count());
        c.due("the 150th again", true, t.put(149, 2, 1234, 2));
        c.due("the first again", true, t.put(0, 2, 4321, 2));
        c.due("the 150th: text", 1234, t.text(149, 2));
        c.due("the first: text", 4321, t.text(0, 2));
        c.due("again: count", MOST_KEYS, t.count());
        for (int i = 1; i < MOST_KEYS - 1; i++) {
            c.due("full: text", i, t.text(i, 2));
        }
        t.remove(70, 2);
        c.due("a 150th after a remove", true, t.put(0xffff, 2, 1, 1));
        c.due("a 151st after it", false, t.put(70, 2, 1, 1));
    }

    // Promise 3

    private static void removeTakesAKeyAway() {
        BlockTree t = new BlockTree();
        t.put(0x61, 1, 0x7a, 1);
        c.due("remove", true, t.remove(0x61, 1));
        c.due("remove: length", BlockTree.NONE, t.length(0x61, 1));
        c.due("remove: text", 0, t.text(0x61, 1));
        c.due("remove: count", 0, t.count());
        c.due("remove: seek", false, t.seek(0, 1));
        c.due("remove again", false, t.remove(0x61, 1));
        t.put(0x61, 1, 0, 0);
        c.due("put again: length", 0, t.length(0x61, 1));
        c.due("put again: text", 0, t.text(0x61, 1));
    }

    private static void removeKnowsOnlyTheKeyItself() {
        BlockTree t = new BlockTree();
        t.put(0x6100, 2, 1, 1);
        c.due("remove of a beginning", false, t.remove(0x61, 1));
        c.due("remove of a longer one", false, t.remove(0x610000, 3));
        c.due("remove of a later one", false, t.remove(0x6101, 2));
        c.due("remove of an earlier one", false, t.remove(0x60ff, 2));
        for (int size : WRONG_KEY_SIZES) {
            c.due("remove, size " + size, false, t.remove(0x6100, size));
        }
        c.due("not removed: count", 1, t.count());
        c.due("not removed: text", 1, t.text(0x6100, 2));
    }

    private static void removeAtBothEndsAndInside() {
        BlockTree t = full();
        int[] gone = {0, 149, 75, 1, 148, 74, 76};
        for (int i = 0; i < gone.length; i++) {
            c.due("remove of " + gone[i], true, t.remove(gone[i], 2));
            c.due("remove of " + gone[i] + ": count", MOST_KEYS - 1 - i, t.count());
        }
        for (int i = 0; i < MOST_KEYS; i++) {
            boolean isGone = i < 2 || i > 147 || (i >= 74 && i <= 76);
            c.due("left: text of " + i, isGone ? 0 : i, t.text(i, 2));
            c.due("left: length of " + i, isGone ? BlockTree.NONE : 2, t.length(i, 2));
        }
        t.before(77, 2);
        c.due("left: before 77", 73, t.found());
        t.seek(74, 2);
        c.due("left: seek 74", 77, t.found());
    }

    // Promises 4 and 5

    private static void lengthOfAText() {
        BlockTree t = new BlockTree();
        for (int length = 0; length <= 8; length++) {
            t.put(length, 1, 0, length);
        }
        for (int length = 0; length <= 8; length++) {
            c.due("length", length, t.length(length, 1));
        }
        c.due("length of none", BlockTree.NONE, t.length(9, 1));
        c.due("length of a longer key", BlockTree.NONE, t.length(3, 2));
        for (int size : WRONG_KEY_SIZES) {
            c.due("length, size " + size, BlockTree.NONE, t.length(3, size));
        }
    }

    private static void textAsItIsTold() {
        BlockTree t = new BlockTree();
        for (int length = 0; length <= 8; length++) {
            t.put(length, 1, -1, length);
        }
        c.due("text of 0", 0, t.text(0, 1));
        c.due("text of 1", 0xffL, t.text(1, 1));
        c.due("text of 2", 0xffffL, t.text(2, 1));
        c.due("text of 4", 0xffffffffL, t.text(4, 1));
        c.due("text of 7", 0xffffffffffffffL, t.text(7, 1));
        c.due("text of 8", -1, t.text(8, 1));
        t.put(9, 1, Long.MIN_VALUE, 8);
        c.due("text with the highest bit", Long.MIN_VALUE, t.text(9, 1));
        c.due("text of none", 0, t.text(10, 1));
        c.due("text of a longer key", 0, t.text(8, 2));
        for (int size : WRONG_KEY_SIZES) {
            c.due("text, size " + size, 0, t.text(8, size));
        }
    }

    // Promises 6 to 9

    private static void seekFindsTheFirstNotBefore() {
        BlockTree t = threeKeys();
        seekDue(t, 0x10, 1, 0x20, 1);
        seekDue(t, 0x20, 1, 0x20, 1);
        seekDue(t, 0x2000, 2, 0x2030, 2);
        seekDue(t, 0x2030, 2, 0x2030, 2);
        seekDue(t, 0x2031, 2, 0x40, 1);
        seekDue(t, 0x40, 1, 0x40, 1);
        seekDue(t, 0x4000, 2, 0, 0);
        seekDue(t, 0x41, 1, 0, 0);
        seekDue(t, 0xaa20, 1, 0x20, 1);
    }

    private static void beforeFindsTheLastBefore() {
        BlockTree t = threeKeys();
        beforeDue(t, 0x10, 1, 0, 0);
        beforeDue(t, 0x20, 1, 0, 0);
        beforeDue(t, 0x2000, 2, 0x20, 1);
        beforeDue(t, 0x2030, 2, 0x20, 1);
        beforeDue(t, 0x2031, 2, 0x2030, 2);
        beforeDue(t, 0x40, 1, 0x2030, 2);
        beforeDue(t, 0x4000, 2, 0x40, 1);
        beforeDue(t, -1, 8, 0x40, 1);
        beforeDue(t, 0xaa40, 1, 0x2030, 2);
    }

    private static void orderIsWithoutSigns() {
        BlockTree t = new BlockTree();
        long[] inOrder = {0, 1, 0x7f, 0x80, 0x81, 0xff};
        for (int i = inOrder.length - 1; i >= 0; i--) {
            t.put(inOrder[i] << 56 | 0xffL, 8, i, 1);
        }
        for (int i = 0; i < inOrder.length; i++) {
            long after = i + 1 < inOrder.length ? inOrder[i + 1] << 56 | 0xffL : 0;
            seekDue(t, inOrder[i] << 56 | 0xffffL, 8, after, after == 0 ? 0 : 8);
            beforeDue(t, inOrder[i] << 56 | 0xffffL, 8, inOrder[i] << 56 | 0xffL, 8);
        }
        BlockTree small = new BlockTree();
        small.put(0x80, 1, 0, 0);
        small.put(0x7f, 1, 0, 0);
        seekDue(small, 0, 1, 0x7f, 1);
        beforeDue(small, 0xff, 1, 0x80, 1);
    }

    private static void aBeginningComesFirst() {
        BlockTree t = new BlockTree();
        for (int size = 8; size >= 1; size--) {
            t.put(0, size, 0, 0);
        }
        t.put(1, 1, 0, 0);
        for (int size = 1; size <= 8; size++) {
            seekDue(t, 0, size, 0, size);
            beforeDue(t, 0, size, 0, size - 1);
        }
        seekDue(t, 1, 8, 1, 1);
        beforeDue(t, 1, 8, 0, 8);
        // By number 0x0100 would be after 0x02; byte by byte it is before it.
        t.put(0x0100, 2, 0, 0);
        t.put(0x02, 1, 0, 0);
        beforeDue(t, 0x02, 1, 0x0100, 2);
        seekDue(t, 0x0101, 2, 0x02, 1);
    }

    private static void nothingIsFoundForWrongSizes() {
        BlockTree t = threeKeys();
        for (int size : WRONG_KEY_SIZES) {
            t.seek(0x20, 1);
            seekDue(t, 0x20, size, 0, 0);
            t.seek(0x20, 1);
            beforeDue(t, 0x40, size, 0, 0);
        }
    }

    private static void nothingIsFoundWhereNoneIs() {
        BlockTree t = threeKeys();
        t.seek(0x20, 1);
        seekDue(t, 0x41, 1, 0, 0);
        t.seek(0x20, 1);
        beforeDue(t, 0x20, 1, 0, 0);
    }

    private static void foundIsAsItIsTold() {
        BlockTree t = new BlockTree();
        t.put(-1, 1, 0, 0);
        seekDue(t, 0, 1, 0xff, 1);
        t.put(-1, 4, 0, 0);
        beforeDue(t, -1, 8, 0xffffffffL, 4);
        t.put(-1, 8, 0, 0);
        seekDue(t, -1, 8, -1, 8);
        t.put(0, 3, 0, 0);
        seekDue(t, 0, 1, 0, 3);
    }

    private static void foundStaysUntilTheNextSearch() {
        BlockTree t = threeKeys();
        t.commit();
        t.seek(0x2030, 2);
        t.put(0x2030, 2, 9, 1);
        t.put(0x01, 1, 9, 1);
        t.length(0x40, 1);
        t.text(0x40, 1);
        t.count();
        foundDue("found after other calls", t, 0x2030, 2);
        t.remove(0x2030, 2);
        foundDue("found after its remove", t, 0x2030, 2);
        t.commit();
        foundDue("found after commit", t, 0x2030, 2);
        t.seek(0x40, 1);
        t.revert();
        foundDue("found after revert", t, 0x40, 1);
        t.seek(0x41, 1);
        t.revert();
        foundDue("nothing found after revert", t, 0, 0);
    }

    // Promise 10

    private static void countFollowsTheKeys() {
        BlockTree t = new BlockTree();
        for (int i = 0; i < MOST_KEYS; i++) {
            t.put(i, 1, 0, 0);
            c.due("count of " + (i + 1), i + 1, t.count());
        }
        // Not all the way down: the document frees what comes after 512 calls.
        for (int i = MOST_KEYS - 1; i >= 50; i--) {
            t.remove(i, 1);
            c.due("count down to " + i, i, t.count());
        }
    }

    // Promises 11 and 12

    private static void commitKeepsAll() {
        BlockTree t = full();
        t.commit();
        c.due("commit: count", MOST_KEYS, t.count());
        for (int i = 0; i < MOST_KEYS; i++) {
            c.due("commit: text of " + i, i, t.text(i, 2));
        }
        t.revert();
        c.due("commit, revert: count", MOST_KEYS, t.count());
        for (int i = 0; i < MOST_KEYS; i++) {
            c.due("commit, revert: text of " + i, i, t.text(i, 2));
        }
    }

    private static void commitKeepsWhatLaterChangesTouch() {
        BlockTree t = threeKeys();
        t.commit();
        t.put(0x20, 1, 0x99, 1);
        t.remove(0x2030, 2);
        t.put(0x01, 1, 1, 1);
        t.put(0x40, 1, 0, 0);
        t.revert();
        c.due("taken back: count", 3, t.count());
        c.due("taken back: new text", 0x1111, t.text(0x20, 1));
        c.due("taken back: its length", 2, t.length(0x20, 1));
        c.due("taken back: remove", 0x2222, t.text(0x2030, 2));
        c.due("taken back: put", BlockTree.NONE, t.length(0x01, 1));
        c.due("taken back: empty text", 2, t.length(0x40, 1));
        seekDue(t, 0, 1, 0x20, 1);
        beforeDue(t, 0x40, 1, 0x2030, 2);
    }

    private static void revertWithoutACommit() {
        BlockTree t = threeKeys();
        t.revert();
        c.due("as at first: count", 0, t.count());
        c.due("as at first: length", BlockTree.NONE, t.length(0x20, 1));
        seekDue(t, 0, 1, 0, 0);
        t.revert();
        c.due("as at first again: count", 0, t.count());
    }

    private static void revertToTheLatestCommit() {
        BlockTree t = new BlockTree();
        t.put(1, 1, 1, 1);
        t.commit();
        t.put(1, 1, 2, 1);
        t.put(2, 1, 2, 1);
        t.commit();
        t.put(1, 1, 3, 1);
        t.remove(2, 1);
        t.revert();
        c.due("latest: text", 2, t.text(1, 1));
        c.due("latest: count", 2, t.count());
        t.remove(1, 1);
        t.remove(2, 1);
        t.commit();
        t.put(9, 1, 9, 1);
        t.revert();
        c.due("latest, without keys: count", 0, t.count());
        c.due("latest, without keys: length", BlockTree.NONE, t.length(1, 1));
    }

    private static void revertAgainAndAgain() {
        BlockTree t = threeKeys();
        t.commit();
        for (int i = 0; i < 3; i++) {
            t.put(0x20, 1, i, 1);
            t.put(0x10 + i, 1, i, 1);
            t.remove(0x40, 1);
            t.revert();
            c.due("again: count", 3, t.count());
            c.due("again: text", 0x1111, t.text(0x20, 1));
            c.due("again: removed", 0x3333, t.text(0x40, 1));
        }
    }

    private static void revertMakesRoomAgain() {
        BlockTree t = new BlockTree();
        for (int i = 0; i < MOST_KEYS - 1; i++) {
            t.put(i, 2, i, 2);
        }
        t.commit();
        c.due("the 150th", true, t.put(0xff00, 2, 0, 0));
        c.due("the 151st", false, t.put(0xff01, 2, 0, 0));
        t.revert();
        c.due("another 150th", true, t.put(0xff01, 2, 0, 0));
        c.due("another 151st", false, t.put(0xff00, 2, 0, 0));
    }

    private static BlockTree full() {
        BlockTree t = new BlockTree();
        for (int i = 0; i < MOST_KEYS; i++) {
            // 7 and 150 have no common divisor, so each number comes once, out of order.
            int key = i * 7 % MOST_KEYS;
            c.due("put of " + key, true, t.put(key, 2, key, 2));
        }
        return t;
    }

    private static BlockTree threeKeys() {
        BlockTree t = new BlockTree();
        t.put(0x40, 1, 0x3333, 2);
        t.put(0x20, 1, 0x1111, 2);
        t.put(0x2030, 2, 0x2222, 2);
        return t;
    }

    private static void seekDue(BlockTree t, long key, int size, long found, int foundSize) {
        String call = "seek(" + key + ", " + size + ")";
        c.due(call, foundSize != 0, t.seek(key, size));
        foundDue(call, t, found, foundSize);
    }

    private static void beforeDue(BlockTree t, long key, int size, long found, int foundSize) {
        String call = "before(" + key + ", " + size + ")";
        c.due(call, foundSize != 0, t.before(key, size));
        foundDue(call, t, found, foundSize);
    }

    private static void foundDue(String call, BlockTree t, long found, int foundSize) {
        c.due(call + ": foundSize", foundSize, t.foundSize());
        c.due(call + ": found", found, t.found());
    }

    private static long lowest(long bytes, int many) {
        long all = 0;
        for (int i = many - 1; i >= 0; i--) {
            all = all << 8 | (bytes >> 8 * i & 0xff);
        }
        return all;
    }
}

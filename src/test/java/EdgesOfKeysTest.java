/** Promises 1 to 5 and 10: each sentence that names a boundary has a test of its own here. */
public final class EdgesOfKeysTest {
    private static final long[] ANY = {0, 1, 0x7f, 0x80, 0xff, 0x20, 0x2030, Long.MAX_VALUE, Long.MIN_VALUE, -1};

    /** Keys that some() has not: neighbours, beginnings and longer ones of those that it has. */
    private static final long[] NOT_THERE = {0x1f, 0x21, 0x80, 0xfe, 0, 0x2000, 0x202f, 0x2031, 0xff00, 0x203000, 0x0020, -2, -1};
    private static final int[] NOT_THERE_SIZES = {1, 1, 1, 1, 2, 2, 2, 2, 2, 3, 2, 8, 7};

    private static final Checks c = new Checks();

    public static void main(String[] args) {
        aNewObjectHasNoKeys();
        putInPlaceOfAnotherText();
        putTakesTheLeastAndTheMost();
        putRefusesSizesThatAreNot1To8();
        putRefusesLengthsThatAreNot0To8();
        putRefusesBothAtOnce();
        putTakesThe150th();
        putRefusesThe151st();
        putWhenFullKnowsItsKeys();
        removeOfAKey();
        removeOfNoneSuch();
        lengthOfNoneSuch();
        textWhatDoesNotCountIs0();
        textOfNoneSuch();
        countOfNoneToAll();
        countOfRefusedCalls();
        c.end();
    }

    private static void aNewObjectHasNoKeys() {
        c.sentence("Promise 1: no keys");
        Trees.full().commit();
        for (int size = 1; size <= 8; size++) {
            BlockTree t = new BlockTree();
            for (long key : ANY) {
                c.due("length", BlockTree.NONE, t.length(key, size));
                c.due("text", 0, t.text(key, size));
                c.due("seek", false, t.seek(key, size));
                c.due("before", false, t.before(key, size));
                c.due("remove", false, t.remove(key, size));
            }
            c.due("all", "0 keys:", Trees.held(t));
        }
        BlockTree t = new BlockTree();
        c.due("found at first", "nothing", Trees.found(t));
        t.revert();
        c.due("all after revert", "0 keys:", Trees.held(t));
        t.commit();
        c.due("all after commit", "0 keys:", Trees.held(t));
    }

    private static void putInPlaceOfAnotherText() {
        c.sentence("Promise 2: in place of another one: true");
        BlockTree t = Trees.some();
        c.due("put, shorter", true, t.put(0x20, 1, 0x33, 1));
        c.due("put, longer", true, t.put(0x2030, 2, Long.MIN_VALUE, 8));
        c.due("put, empty", true, t.put(0, 1, -1, 0));
        c.due("put, no more empty", true, t.put(0xff, 1, 0, 1));
        c.due("put, the same", true, t.put(-1, 8, 5, 1));
        c.due("all", "5 keys: 00= 20=33 2030=8000000000000000 ff=00 ffffffffffffffff=05", Trees.held(t));
    }

    private static void putTakesTheLeastAndTheMost() {
        c.sentence("Promise 2: the sizes 1 .. 8, 0 .. 8: true");
        for (int size = 1; size <= 8; size++) {
            for (int length = 0; length <= 8; length++) {
                BlockTree t = new BlockTree();
                String row = "1 keys: " + Trees.row(Trees.lowest(-1, size), size) + "=";
                c.due("put of " + size + ", " + length, true, t.put(-1, size, -1, length));
                c.due("all", row + Trees.row(Trees.lowest(-1, length), length), Trees.held(t));
            }
        }
    }

    private static void putRefusesSizesThatAreNot1To8() {
        c.sentence("Promise 2: false, and nothing happens, if the size is not 1 .. 8");
        for (int size : Trees.WRONG_SIZES) {
            for (long key : ANY) {
                BlockTree t = Trees.some();
                c.due("put of size " + size, false, t.put(key, size, 9, 1));
                nothingHappened("size " + size, t);
            }
        }
    }

    private static void putRefusesLengthsThatAreNot0To8() {
        c.sentence("Promise 2: false, and nothing happens, if the text's size is not 0 .. 8");
        for (int length : Trees.WRONG_LENGTHS) {
            for (long key : ANY) {
                for (int size = 1; size <= 8; size++) {
                    BlockTree t = Trees.some();
                    c.due("put of length " + length, false, t.put(key, size, 9, length));
                    nothingHappened("length " + length, t);
                }
            }
        }
    }

    private static void putRefusesBothAtOnce() {
        c.sentence("Promise 2: false, and nothing happens, if neither size is right");
        for (int size : Trees.WRONG_SIZES) {
            for (int length : Trees.WRONG_LENGTHS) {
                BlockTree t = Trees.some();
                c.due("put of " + size + ", " + length, false, t.put(0x20, size, 9, length));
                nothingHappened(size + ", " + length, t);
            }
        }
    }

    private static void putTakesThe150th() {
        c.sentence("Promise 2: true for the 150th");
        long[] places = {0, 150, 298};
        for (long place : places) {
            BlockTree t = Trees.full();
            t.remove(place, 2);
            c.due("count of 149", 149, t.count());
            c.due("put of " + place, true, t.put(place, 2, place, 2));
            Trees.fullDue(c, "put of " + place, t);
            c.due("put of one more", false, t.put(1, 2, 1, 1));
        }
    }

    private static void putRefusesThe151st() {
        c.sentence("Promise 2: false, and nothing happens, if it would be the 151st");
        // Before all, behind the first, inside, a beginning, a longer one, behind all, the last that can be.
        long[] keys = {0, 1, 149, 1, 0x009600, 299, 0xff, -1};
        int[] sizes = {1, 2, 2, 1, 3, 2, 1, 8};
        for (int i = 0; i < keys.length; i++) {
            String call = "put of " + Trees.row(Trees.lowest(keys[i], sizes[i]), sizes[i]);
            BlockTree t = Trees.full();
            t.seek(150, 2);
            c.due(call, false, t.put(keys[i], sizes[i], 9, 1));
            c.due(call + ": length", BlockTree.NONE, t.length(keys[i], sizes[i]));
            c.due(call + ": found", "0096", Trees.found(t));
            Trees.fullDue(c, call, t);

            BlockTree order = Trees.full();
            order.put(keys[i], sizes[i], 9, 1);
            fullOrderDue(call, order);

            BlockTree kept = Trees.full();
            kept.commit();
            c.due(call + " after commit", false, kept.put(keys[i], sizes[i], 9, 1));
            kept.revert();
            Trees.fullDue(c, call + ", revert", kept);
        }
    }

    private static void putWhenFullKnowsItsKeys() {
        c.sentence("Promise 2: a key that is there is not the 151st");
        BlockTree t = Trees.full();
        for (long key = 0; key < 2 * Trees.MOST_KEYS; key += 2) {
            c.due("put of " + key, true, t.put(key, 2, key + 1, 3));
            c.due("text of " + key, key + 1, t.text(key, 2));
        }
        c.due("count", Trees.MOST_KEYS, t.count());
        c.due("put, length 9", false, t.put(0, 2, 9, 9));
        c.due("put, length -1", false, t.put(0, 2, 9, -1));
        c.due("text after it", 1, t.text(0, 2));
        c.due("put of one more", false, t.put(1, 2, 9, 1));
        c.due("remove", true, t.remove(298, 2));
        c.due("put in its room", true, t.put(1, 2, 9, 1));
        c.due("put of it again", false, t.put(298, 2, 9, 1));
        c.due("text in its room", 9, t.text(1, 2));
    }

    private static void removeOfAKey() {
        c.sentence("Promise 3: a key, with its text, is gone: true");
        long[] keys = {0, 0x20, 0x2030, 0xff, -1};
        int[] sizes = {1, 1, 2, 1, 8};
        String[] rows = {" 00=07", " 20=ffffffffffffffff", " 2030=22", " ff=", " ffffffffffffffff=05"};
        for (int gone = 0; gone < keys.length; gone++) {
            BlockTree t = Trees.some();
            c.due("remove", true, t.remove(keys[gone], sizes[gone]));
            c.due("length of the gone", BlockTree.NONE, t.length(keys[gone], sizes[gone]));
            c.due("text of the gone", 0, t.text(keys[gone], sizes[gone]));
            c.due("all", Trees.SOME.replace("5 keys", "4 keys").replaceFirst(rows[gone] + "( |$)", "$1"), Trees.held(t));
            t.put(keys[gone], sizes[gone], 0, 0);
            c.due("length when it is put again", 0, t.length(keys[gone], sizes[gone]));
            c.due("text when it is put again", 0, t.text(keys[gone], sizes[gone]));
        }
        BlockTree t = Trees.full();
        for (long key = 0; key < 2 * Trees.MOST_KEYS; key += 2) {
            c.due("remove of " + key, true, t.remove(key, 2));
            c.due("remove of " + key + " again", false, t.remove(key, 2));
        }
        c.due("all when all are gone", "0 keys:", Trees.held(t));
    }

    private static void removeOfNoneSuch() {
        c.sentence("Promise 3: false if there is none such");
        for (int i = 0; i < NOT_THERE.length; i++) {
            BlockTree t = Trees.some();
            c.due("remove, none such " + i, false, t.remove(NOT_THERE[i], NOT_THERE_SIZES[i]));
            nothingHappened("remove, none such " + i, t);
        }
        for (int size : Trees.WRONG_SIZES) {
            for (long key : ANY) {
                BlockTree t = Trees.some();
                c.due("remove of size " + size, false, t.remove(key, size));
                nothingHappened("remove of size " + size, t);
                c.due("remove of size " + size + " without keys", false, new BlockTree().remove(key, size));
            }
        }
        BlockTree full = Trees.full();
        c.due("remove before all", false, full.remove(0, 1));
        c.due("remove inside", false, full.remove(149, 2));
        c.due("remove behind all", false, full.remove(-1, 8));
        Trees.fullDue(c, "remove from 150", full);
        BlockTree one = new BlockTree();
        one.put(5, 1, 5, 1);
        c.due("remove of the only one", true, one.remove(5, 1));
        c.due("remove of it again", false, one.remove(5, 1));
        c.due("all after it", "0 keys:", Trees.held(one));
    }

    private static void lengthOfNoneSuch() {
        c.sentence("Promise 4: NONE if there is none such");
        for (int i = 0; i < NOT_THERE.length; i++) {
            BlockTree t = Trees.some();
            c.due("length, none such " + i, BlockTree.NONE, t.length(NOT_THERE[i], NOT_THERE_SIZES[i]));
            nothingHappened("length, none such " + i, t);
        }
        for (int size : Trees.WRONG_SIZES) {
            BlockTree t = Trees.some();
            for (long key : ANY) {
                c.due("length of size " + size, BlockTree.NONE, t.length(key, size));
                c.due("length of size " + size + " without keys", BlockTree.NONE, new BlockTree().length(key, size));
            }
            nothingHappened("length of size " + size, t);
        }
        c.due("length of an empty text", 0, Trees.some().length(0xff, 1));
        c.due("length of the longest text", 8, Trees.some().length(0x20, 1));
        BlockTree full = Trees.full();
        c.due("length of the first of 150", 2, full.length(0, 2));
        c.due("length of the last of 150", 2, full.length(298, 2));
        c.due("length before all", BlockTree.NONE, full.length(0, 1));
        c.due("length behind all", BlockTree.NONE, full.length(299, 2));
    }

    private static void textWhatDoesNotCountIs0() {
        c.sentence("Promise 5: what does not count is 0");
        long[] texts = {-1, Long.MIN_VALUE, Long.MAX_VALUE, 0x8182838485868788L, 0x8080808080808080L};
        for (long text : texts) {
            for (int length = 0; length <= 8; length++) {
                BlockTree t = new BlockTree();
                t.put(7, 1, text, length);
                c.due("text of length " + length, Trees.lowest(text, length), t.text(7, 1));
                t.put(7, 1, -1, 8);
                t.put(7, 1, text, length);
                c.due("text of length " + length + " put over ff", Trees.lowest(text, length), t.text(7, 1));
            }
        }
    }

    private static void textOfNoneSuch() {
        c.sentence("Promise 5: 0 if there is none such");
        for (int i = 0; i < NOT_THERE.length; i++) {
            BlockTree t = Trees.some();
            c.due("text, none such " + i, 0, t.text(NOT_THERE[i], NOT_THERE_SIZES[i]));
            nothingHappened("text, none such " + i, t);
        }
        for (int size : Trees.WRONG_SIZES) {
            BlockTree t = Trees.some();
            for (long key : ANY) {
                c.due("text of size " + size, 0, t.text(key, size));
                c.due("text of size " + size + " without keys", 0, new BlockTree().text(key, size));
            }
            nothingHappened("text of size " + size, t);
        }
        BlockTree full = Trees.full();
        c.due("text of the second of 150", 2, full.text(2, 2));
        c.due("text of the last of 150", 298, full.text(298, 2));
        c.due("text before all", 0, full.text(0, 1));
        c.due("text inside", 0, full.text(3, 2));
        c.due("text behind all", 0, full.text(299, 2));
    }

    private static void countOfNoneToAll() {
        c.sentence("Promise 10: how many keys there are");
        BlockTree t = new BlockTree();
        c.due("count of none", 0, t.count());
        for (int i = 1; i <= Trees.MOST_KEYS; i++) {
            t.put(-i, 2, 0, 0);
            c.due("count going up", i, t.count());
        }
        t.put(0, 1, 0, 0);
        c.due("count after the 151st", Trees.MOST_KEYS, t.count());
        BlockTree down = Trees.full();
        for (int i = Trees.MOST_KEYS - 1; i >= 0; i--) {
            down.remove(2 * i, 2);
            c.due("count going down", i, down.count());
        }
        down.remove(0, 2);
        c.due("count after one more remove", 0, down.count());
    }

    private static void countOfRefusedCalls() {
        c.sentence("Promise 10: what is refused, replaced or not there does not count");
        BlockTree t = Trees.some();
        t.put(0x20, 1, 1, 1);
        t.put(0xaa20, 1, 1, 1);
        c.due("count after one in place of another", 5, t.count());
        t.put(0x21, 0, 1, 1);
        t.put(0x21, 9, 1, 1);
        t.put(0x21, 1, 1, -1);
        t.put(0x21, 1, 1, 9);
        c.due("count after refused puts", 5, t.count());
        t.remove(0x21, 1);
        t.remove(0x20, 0);
        t.remove(0x20, 9);
        c.due("count after refused removes", 5, t.count());
        t.seek(0x21, 1);
        t.before(0x21, 1);
        t.seek(0x21, 9);
        t.before(0x21, 0);
        c.due("count after searches", 5, t.count());
    }

    private static void nothingHappened(String call, BlockTree t) {
        c.due(call + ": found", Trees.SOME_FOUND, Trees.found(t));
        c.due(call + ": all", Trees.SOME, Trees.held(t));
        t.revert();
        c.due(call + ": all that was kept", Trees.SOME_KEPT, Trees.held(t));
    }

    private static void fullOrderDue(String call, BlockTree t) {
        c.due(call + ": before the end", true, t.before(-1, 8));
        for (long key = 2 * Trees.MOST_KEYS - 2; key >= 0; key -= 2) {
            c.due(call + ": found going back", key, t.found());
            c.due(call + ": before " + key, key > 0, t.before(key, 2));
        }
    }
}

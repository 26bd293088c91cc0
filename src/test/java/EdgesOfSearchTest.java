/** Promises 6 to 9: each sentence that names a boundary has a test of its own here. */
public final class EdgesOfSearchTest {
    private static final long[] ANY = {0, 1, 0x7f, 0x80, 0xff, 0x20, 0x2030, Long.MAX_VALUE, Long.MIN_VALUE, -1};

    private static final Checks c = new Checks();

    public static void main(String[] args) {
        seekFindsTheKeyItselfOrTheNext();
        seekOfNone();
        seekOfAWrongSize();
        beforeFindsTheOneBefore();
        beforeOfNone();
        beforeOfAWrongSize();
        searchesAmong150();
        searchesChangeNoKeys();
        foundSizeOfAllSizes();
        foundSizeOfNothing();
        foundIsAsItIsTold();
        foundOfNothing();
        foundByTheLatest();
        foundWhateverBecomesOfTheKey();
        foundIsNotOfRefusedCalls();
        c.end();
    }

    private static void seekFindsTheKeyItselfOrTheNext() {
        c.sentence("Promise 6: the first key in ORDER that is not before one: true");
        BlockTree t = Trees.some();
        seekDue(t, 0, 1, "00");
        seekDue(t, 0, 2, "20");
        seekDue(t, 0x1f, 1, "20");
        seekDue(t, -1L >>> 3, 8, "20");
        seekDue(t, 0x20, 1, "20");
        seekDue(t, 0x2000, 2, "2030");
        seekDue(t, 0x202fff, 3, "2030");
        seekDue(t, 0x2030, 2, "2030");
        seekDue(t, 0x203000, 3, "ff");
        seekDue(t, 0x2031, 2, "ff");
        seekDue(t, 0x80, 1, "ff");
        seekDue(t, 0xff, 1, "ff");
        seekDue(t, 0xff00, 2, "ffffffffffffffff");
        seekDue(t, -1, 7, "ffffffffffffffff");
        seekDue(t, -2, 8, "ffffffffffffffff");
        seekDue(t, -1, 8, "ffffffffffffffff");
    }

    private static void seekOfNone() {
        c.sentence("Promise 6: false if there is none (nothing is found then)");
        for (int size = 1; size <= 8; size++) {
            BlockTree t = new BlockTree();
            for (long key : ANY) {
                seekDue(t, key, size, "nothing");
            }
        }
        BlockTree t = Trees.some();
        t.remove(-1, 8);
        seekDue(t, 0xff, 1, "ff");
        seekDue(t, 0xff00, 2, "nothing");
        seekDue(t, 0xff, 1, "ff");
        seekDue(t, -1, 8, "nothing");
        t.remove(0xff, 1);
        seekDue(t, 0x2030, 2, "2030");
        seekDue(t, 0x203000, 3, "nothing");
        seekDue(t, 0x2030, 2, "2030");
        seekDue(t, 0x2031, 2, "nothing");
        seekDue(t, 0x2030, 2, "2030");
        seekDue(t, 0x80, 1, "nothing");
    }

    private static void seekOfAWrongSize() {
        c.sentence("Promise 6: false if the size is not 1 .. 8 (nothing is found then)");
        for (int size : Trees.WRONG_SIZES) {
            for (long key : ANY) {
                BlockTree t = Trees.some();
                seekDue(t, key, size, "nothing");
                c.due("all after a seek of size " + size, Trees.SOME, Trees.held(t));
            }
        }
        seekDue(Trees.some(), 0, 1, "00");
        seekDue(Trees.some(), 0, 8, "20");
    }

    private static void beforeFindsTheOneBefore() {
        c.sentence("Promise 7: the last key in ORDER that is before one: true");
        BlockTree t = Trees.some();
        beforeDue(t, 0, 2, "00");
        beforeDue(t, 0, 8, "00");
        beforeDue(t, 0x20, 1, "00");
        beforeDue(t, 0x2000, 2, "20");
        beforeDue(t, 0x2030, 2, "20");
        beforeDue(t, 0x203000, 3, "2030");
        beforeDue(t, 0x2031, 2, "2030");
        beforeDue(t, 0x80, 1, "2030");
        beforeDue(t, 0xff, 1, "2030");
        beforeDue(t, 0xff00, 2, "ff");
        beforeDue(t, -1, 7, "ff");
        beforeDue(t, -1, 8, "ff");
        t.remove(-1, 8);
        t.put(-2, 8, 0, 0);
        beforeDue(t, -2, 8, "ff");
        beforeDue(t, -1, 8, "fffffffffffffffe");
    }

    private static void beforeOfNone() {
        c.sentence("Promise 7: false if there is none (nothing is found then)");
        for (int size = 1; size <= 8; size++) {
            BlockTree t = new BlockTree();
            for (long key : ANY) {
                beforeDue(t, key, size, "nothing");
            }
        }
        BlockTree t = Trees.some();
        beforeDue(t, 0, 2, "00");
        beforeDue(t, 0, 1, "nothing");
        t.remove(0, 1);
        beforeDue(t, 0x2000, 2, "20");
        beforeDue(t, 0x20, 1, "nothing");
        beforeDue(t, 0x2000, 2, "20");
        beforeDue(t, 0x1fff, 2, "nothing");
        beforeDue(t, 0x2000, 2, "20");
        beforeDue(t, 0, 1, "nothing");
        BlockTree last = new BlockTree();
        last.put(-1, 8, 0, 0);
        beforeDue(last, -1, 8, "nothing");
    }

    private static void beforeOfAWrongSize() {
        c.sentence("Promise 7: false if the size is not 1 .. 8 (nothing is found then)");
        for (int size : Trees.WRONG_SIZES) {
            for (long key : ANY) {
                BlockTree t = Trees.some();
                beforeDue(t, key, size, "nothing");
                c.due("all after a before of size " + size, Trees.SOME, Trees.held(t));
            }
        }
        beforeDue(Trees.some(), 0x30, 1, "2030");
        beforeDue(Trees.some(), 0x30, 8, "00");
    }

    private static void searchesAmong150() {
        c.sentence("Promises 6 and 7: among 150 keys");
        BlockTree seek = Trees.full();
        BlockTree before = Trees.full();
        for (long key = 0; key <= 298; key += 2) {
            c.due("seek of " + key, true, seek.seek(key, 2));
            c.due("found by seek of " + key, key, seek.found());
            c.due("before of " + (key + 1), true, before.before(key + 1, 2));
            c.due("found by before of " + (key + 1), key, before.found());
        }
        seekDue(seek, 297, 2, "012a");
        seekDue(seek, 299, 2, "nothing");
        seekDue(seek, 0, 1, "0000");
        beforeDue(before, 0, 2, "nothing");
        beforeDue(before, 1, 2, "0000");
        beforeDue(before, -1, 8, "012a");
        seekAndBeforeBetween();
    }

    private static void seekAndBeforeBetween() {
        BlockTree seek = Trees.full();
        BlockTree before = Trees.full();
        for (long key = 2; key <= 298; key += 2) {
            c.due("seek of " + (key - 1), true, seek.seek(key - 1, 2));
            c.due("found by seek of " + (key - 1), key, seek.found());
            c.due("before of " + key, true, before.before(key, 2));
            c.due("found by before of " + key, key - 2, before.found());
        }
    }

    private static void searchesChangeNoKeys() {
        c.sentence("Promises 6 and 7: a search finds, and changes no key");
        BlockTree t = Trees.some();
        for (long key : ANY) {
            t.seek(key, 1);
            t.before(key, 8);
            t.seek(key, 9);
            t.before(key, 0);
        }
        c.due("all", Trees.SOME, Trees.held(t));
        t.revert();
        c.due("all that was kept", Trees.SOME_KEPT, Trees.held(t));
    }

    private static void foundSizeOfAllSizes() {
        c.sentence("Promise 8: how many bytes");
        for (int size = 1; size <= 8; size++) {
            for (long key : ANY) {
                BlockTree t = new BlockTree();
                t.put(key, size, 0, 0);
                t.seek(0, 1);
                c.due("foundSize by seek", size, t.foundSize());
                t.seek(key, 9);
                t.put(0, 1, 0, 0);
                t.put(-1, 8, 0, 0);
                t.seek(key, size);
                c.due("foundSize by seek of itself", size, t.foundSize());
            }
        }
    }

    private static void foundSizeOfNothing() {
        c.sentence("Promise 8: 0 if nothing was");
        c.due("foundSize at first", 0, new BlockTree().foundSize());
        BlockTree never = Trees.full();
        never.length(2, 2);
        never.text(2, 2);
        never.remove(2, 2);
        never.commit();
        never.revert();
        c.due("foundSize without a search", 0, never.foundSize());
        for (int which = 0; which < 4; which++) {
            BlockTree t = Trees.some();
            searchInVain(t, which);
            c.due("foundSize after search " + which, 0, t.foundSize());
            t.commit();
            t.revert();
            c.due("foundSize after commit and revert " + which, 0, t.foundSize());
        }
    }

    private static void foundIsAsItIsTold() {
        c.sentence("Promise 9: that key, as it is told");
        for (int size = 1; size <= 8; size++) {
            for (long key : ANY) {
                BlockTree t = new BlockTree();
                t.put(key, size, 0, 0);
                t.seek(key, size);
                c.due("found by seek", Trees.lowest(key, size), t.found());
                t.seek(key, 9);
                t.seek(0, 1);
                c.due("found by seek of the least", Trees.lowest(key, size), t.found());
                t.seek(key, 9);
                if (size < 8) {
                    t.before(key << 8, size + 1);
                    c.due("found by before", Trees.lowest(key, size), t.found());
                }
            }
        }
    }

    private static void foundOfNothing() {
        c.sentence("Promise 9: 0 if nothing was");
        c.due("found at first", 0, new BlockTree().found());
        BlockTree never = Trees.full();
        never.length(2, 2);
        never.text(2, 2);
        never.remove(2, 2);
        never.commit();
        never.revert();
        c.due("found without a search", 0, never.found());
        for (int which = 0; which < 4; which++) {
            BlockTree t = Trees.some();
            searchInVain(t, which);
            c.due("found after search " + which, 0, t.found());
            t.commit();
            t.revert();
            c.due("found after commit and revert " + which, 0, t.found());
        }
    }

    private static void foundByTheLatest() {
        c.sentence("Promises 8 and 9: found by the latest seek or before");
        BlockTree t = Trees.some();
        c.due("found at first", "2030", Trees.found(t));
        t.before(0x2030, 2);
        c.due("found by before", "20", Trees.found(t));
        t.seek(0x80, 1);
        c.due("found by seek", "ff", Trees.found(t));
        t.seek(0, 0);
        c.due("found by a refused seek", "nothing", Trees.found(t));
        t.before(0x20, 1);
        c.due("found by before again", "00", Trees.found(t));
        t.before(0, 1);
        c.due("found by before of the first", "nothing", Trees.found(t));
        c.due("found, told again", "nothing", Trees.found(t));
    }

    private static void foundWhateverBecomesOfTheKey() {
        c.sentence("Promises 8 and 9: the key that was found, until the next search");
        BlockTree t = Trees.some();
        t.put(0x2030, 2, -1, 8);
        c.due("found when it has another text", "2030", Trees.found(t));
        t.put(0x10, 1, 0, 0);
        c.due("found when there is one before it", "2030", Trees.found(t));
        t.put(0x2000, 2, 0, 0);
        c.due("found when another one would be", "2030", Trees.found(t));
        t.remove(0, 1);
        c.due("found when one before it is gone", "2030", Trees.found(t));
        t.remove(0x2030, 2);
        c.due("found when it is gone", "2030", Trees.found(t));
        t.commit();
        c.due("found when it is gone for good", "2030", Trees.found(t));
        t.revert();
        c.due("found after revert", "2030", Trees.found(t));
        t.seek(0x2030, 2);
        c.due("found by the next seek", "ff", Trees.found(t));
        t.put(0xa0, 1, 0, 0);
        t.seek(0xa0, 1);
        t.revert();
        c.due("found when its put is taken back", "a0", Trees.found(t));
        BlockTree early = Trees.full();
        early.seek(150, 2);
        early.revert();
        c.due("found when there is no key any more", "0096", Trees.found(early));
    }

    private static void foundIsNotOfRefusedCalls() {
        c.sentence("Promises 8 and 9: no other call finds, or finds nothing");
        BlockTree t = Trees.some();
        t.put(1, 0, 1, 1);
        t.put(1, 1, 1, 9);
        c.due("found after refused puts", "2030", Trees.found(t));
        t.remove(0x33, 1);
        t.remove(0x33, 9);
        c.due("found after refused removes", "2030", Trees.found(t));
        t.length(0x20, 1);
        t.length(0x33, 1);
        t.length(0x33, 0);
        c.due("found after lengths", "2030", Trees.found(t));
        t.text(0x20, 1);
        t.text(0x33, 1);
        t.text(0x33, -1);
        t.count();
        c.due("found after texts", "2030", Trees.found(t));
    }

    /** The four ways in which a search finds nothing. */
    private static void searchInVain(BlockTree t, int which) {
        if (which == 0) {
            t.seek(0x20, 0);
        } else if (which == 1) {
            t.before(0x20, 9);
        } else if (which == 2) {
            t.before(0, 1);
        } else {
            t.remove(-1, 8);
            t.seek(-1, 8);
        }
    }

    private static void seekDue(BlockTree t, long key, int size, String found) {
        String call = "seek(" + Long.toHexString(key) + ", " + size + ")";
        c.due(call, !found.equals("nothing"), t.seek(key, size));
        c.due(call + ": found", found, Trees.found(t));
    }

    private static void beforeDue(BlockTree t, long key, int size, String found) {
        String call = "before(" + Long.toHexString(key) + ", " + size + ")";
        c.due(call, !found.equals("nothing"), t.before(key, size));
        c.due(call + ": found", found, Trees.found(t));
    }
}

/** Promises 11 and 12: each sentence that names a boundary has a test of its own here. */
public final class EdgesOfCommitTest {
    private static final Checks c = new Checks();

    public static void main(String[] args) {
        commitLeavesAllAsItIs();
        commitOfNoKeys();
        commitOf150Keys();
        commitAfterCommit();
        commitOfRefusedCalls();
        revertToTheLatestCommit();
        revertAtFirst();
        revertFromNoKeysTo150();
        revertFrom150KeysToNone();
        revertTwice();
        revertAfterRefusedCalls();
        revertTakesBackEveryKindOfChange();
        c.end();
    }

    private static void commitLeavesAllAsItIs() {
        c.sentence("Promise 11: as it is");
        BlockTree t = Trees.some();
        t.commit();
        c.due("found", Trees.SOME_FOUND, Trees.found(t));
        c.due("all", Trees.SOME, Trees.held(t));
        t.commit();
        c.due("all after another one", Trees.SOME, Trees.held(t));
    }

    private static void commitOfNoKeys() {
        c.sentence("Promise 11: all is kept, where there are no keys");
        BlockTree t = new BlockTree();
        t.commit();
        c.due("all", "0 keys:", Trees.held(t));
        t.put(1, 1, 1, 1);
        t.revert();
        c.due("all after revert", "0 keys:", Trees.held(t));
        BlockTree emptied = Trees.some();
        emptied.remove(0, 1);
        emptied.remove(0x20, 1);
        emptied.remove(0x2030, 2);
        emptied.remove(0xff, 1);
        emptied.remove(-1, 8);
        emptied.commit();
        emptied.put(0x20, 1, 1, 1);
        emptied.revert();
        c.due("all of an emptied one after revert", "0 keys:", Trees.held(emptied));
    }

    private static void commitOf150Keys() {
        c.sentence("Promise 11: all is kept, where there are 150 keys");
        BlockTree now = Trees.full();
        now.commit();
        Trees.fullDue(c, "commit", now);
        BlockTree texts = Trees.full();
        texts.commit();
        for (long key = 0; key <= 298; key += 2) {
            texts.put(key, 2, -1, 8);
        }
        texts.revert();
        for (long key = 0; key <= 298; key += 2) {
            c.due("text of " + key + " after revert", key, texts.text(key, 2));
        }
        c.due("length of the first after revert", 2, texts.length(0, 2));
        c.due("length of the last after revert", 2, texts.length(298, 2));
        c.due("put of one more", false, texts.put(1, 2, 1, 1));
        BlockTree keys = Trees.full();
        keys.commit();
        keys.put(0, 2, 0, 0);
        keys.put(298, 2, 0, 0);
        keys.remove(0, 2);
        keys.put(-1, 8, -1, 8);
        keys.remove(150, 2);
        keys.put(0, 1, 0, 0);
        keys.revert();
        Trees.fullDue(c, "revert", keys);
    }

    private static void commitAfterCommit() {
        c.sentence("Promise 11: all is kept, in place of what was kept before");
        BlockTree t = Trees.some();
        t.commit();
        t.put(0x20, 1, 3, 1);
        t.revert();
        c.due("all after revert", Trees.SOME, Trees.held(t));
        t.remove(0, 1);
        t.remove(-1, 8);
        t.commit();
        t.commit();
        t.put(0, 1, 9, 1);
        t.revert();
        c.due("all of fewer", "3 keys: 20=ffffffffffffffff 2030=22 ff=", Trees.held(t));
    }

    private static void commitOfRefusedCalls() {
        c.sentence("Promise 11: what was refused is not kept");
        BlockTree t = Trees.some();
        t.put(0x33, 0, 1, 1);
        t.put(0x33, 9, 1, 1);
        t.put(0x33, 1, 1, -1);
        t.put(0x20, 1, 1, 9);
        t.remove(0x20, 9);
        t.remove(0x2000, 2);
        t.commit();
        t.revert();
        c.due("all", Trees.SOME, Trees.held(t));
        BlockTree full = Trees.full();
        full.put(1, 2, 1, 1);
        full.commit();
        full.revert();
        Trees.fullDue(c, "the 151st", full);
    }

    private static void revertToTheLatestCommit() {
        c.sentence("Promise 12: all is as it was at the latest commit");
        BlockTree t = Trees.some();
        t.revert();
        c.due("all", Trees.SOME_KEPT, Trees.held(t));
        t.put(0x30, 1, 0x77, 1);
        t.commit();
        t.remove(0x80, 1);
        t.revert();
        c.due("all after a later one", "4 keys: 20=1111 2030=22 30=77 80=", Trees.held(t));
    }

    private static void revertAtFirst() {
        c.sentence("Promise 12: (or at first)");
        BlockTree t = new BlockTree();
        t.revert();
        c.due("all", "0 keys:", Trees.held(t));
        t.put(1, 1, 1, 1);
        t.put(-1, 8, -1, 8);
        t.revert();
        c.due("all after puts", "0 keys:", Trees.held(t));
        c.due("length after puts", BlockTree.NONE, t.length(1, 1));
        t.put(2, 1, 2, 1);
        t.revert();
        c.due("all again", "0 keys:", Trees.held(t));
        t.put(3, 1, 3, 1);
        c.due("all that is put then", "1 keys: 03=03", Trees.held(t));
    }

    private static void revertFromNoKeysTo150() {
        c.sentence("Promise 12: from no keys back to 150");
        BlockTree t = Trees.full();
        t.commit();
        for (long key = 0; key <= 298; key += 2) {
            t.remove(key, 2);
        }
        c.due("count of none", 0, t.count());
        t.revert();
        c.due("count", 150, t.count());
        for (long key = 0; key <= 298; key += 2) {
            c.due("text of " + key, key, t.text(key, 2));
        }
        c.due("put of one more", false, t.put(1, 2, 1, 1));
    }

    private static void revertFrom150KeysToNone() {
        c.sentence("Promise 12: from 150 keys back to none");
        BlockTree t = Trees.full();
        t.revert();
        c.due("all", "0 keys:", Trees.held(t));
        c.due("length of the first", BlockTree.NONE, t.length(0, 2));
        c.due("length of the last", BlockTree.NONE, t.length(298, 2));
        for (int i = 1; i <= 150; i++) {
            c.due("put of the " + i + "th", true, t.put(i, 1, 0, 0));
        }
        c.due("put of the 151st", false, t.put(151, 1, 0, 0));
    }

    private static void revertTwice() {
        c.sentence("Promise 12: as at the latest commit, however often");
        BlockTree t = Trees.some();
        for (int i = 0; i < 3; i++) {
            t.revert();
            t.revert();
            c.due("all", Trees.SOME_KEPT, Trees.held(t));
            t.put(0x20, 1, i, 1);
            t.put(i, 1, i, 1);
            t.remove(0x80, 1);
        }
    }

    private static void revertAfterRefusedCalls() {
        c.sentence("Promise 12: a refused call changes nothing of what was kept");
        BlockTree t = Trees.some();
        t.revert();
        t.put(0x20, 1, 1, 9);
        t.put(0x20, 0, 1, 1);
        t.remove(0x20, 9);
        t.seek(0x20, 9);
        t.before(0x20, 0);
        c.due("all", Trees.SOME_KEPT, Trees.held(t));
        t.revert();
        c.due("all after revert", Trees.SOME_KEPT, Trees.held(t));
    }

    private static void revertTakesBackEveryKindOfChange() {
        c.sentence("Promise 12: all");
        changeDue(0x20, 1, 1, 2);
        changeDue(0x20, 1, 0x1111, 3);
        changeDue(0x80, 1, 0, 1);
        changeDue(0x2030, 2, 0, 0);
        changeDue(0, 1, 0, 0);
        changeDue(0x2000, 2, 0, 0);
        changeDue(-1, 8, 0, 0);
    }

    private static void changeDue(long key, int size, long text, int length) {
        BlockTree t = Trees.some();
        t.revert();
        t.put(key, size, text, length);
        t.revert();
        c.due("all after a put of " + Long.toHexString(key), Trees.SOME_KEPT, Trees.held(t));
        t.remove(key, size);
        t.revert();
        c.due("all after a remove of " + Long.toHexString(key), Trees.SOME_KEPT, Trees.held(t));
    }
}

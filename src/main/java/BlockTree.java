/**
 * Rows of bytes with texts, in order: what is changed is kept when it is
 * committed, and goes when it is taken back.
 */
public final class BlockTree {

    public static final int NONE = -1;

    private static final int MOST_KEYS = 150;
    private static final int MOST_BYTES = 8;
    private static final int LONG_BITS = 64;
    private static final int BYTE_BITS = 8;

    /** Added to two longs, it lets a signed comparison order them without signs. */
    private static final long SIGN = 0x8000000000000000L;

    /** The steps from this one down, each half the last, add up to 255: enough for 150 keys. */
    private static final int WIDEST_STEP = 128;

    private final Rows now;
    private final Rows kept;

    /** A copy, not a place in the rows: the key stays found when the rows change. */
    private long hitKey;
    private int hitSize;

    public BlockTree() {
        now = new Rows();
        kept = new Rows();
        hitKey = 0L;
        hitSize = 0;
    }

    public boolean put(long key, int size, long text, int length) {
        if (!isKeySize(size) || !isTextLength(length)) {
            return false;
        }
        return now.set(headOf(key, size), size, lowestBytes(text, length), length);
    }

    public boolean remove(long key, int size) {
        int at = placeOf(key, size);
        if (!now.has(at)) {
            return false;
        }
        now.drop(at);
        return true;
    }

    public int length(long key, int size) {
        int at = placeOf(key, size);
        return now.has(at) ? now.lengths[at] : NONE;
    }

    public long text(long key, int size) {
        int at = placeOf(key, size);
        return now.has(at) ? now.texts[at] : 0L;
    }

    public boolean seek(long key, int size) {
        if (!isKeySize(size)) {
            return noteFound(NONE);
        }
        return noteFound(now.firstNotBefore(headOf(key, size), size));
    }

    public boolean before(long key, int size) {
        if (!isKeySize(size)) {
            return noteFound(NONE);
        }
        return noteFound(now.firstNotBefore(headOf(key, size), size) - 1);
    }

    public int foundSize() {
        return hitSize;
    }

    public long found() {
        return hitKey;
    }

    public int count() {
        return now.used;
    }

    public void commit() {
        kept.copyFrom(now);
    }

    public void revert() {
        now.copyFrom(kept);
    }

    private boolean noteFound(int at) {
        if (!now.has(at)) {
            hitKey = 0L;
            hitSize = 0;
            return false;
        }
        hitSize = now.sizes[at];
        hitKey = now.heads[at] >>> unusedBits(hitSize);
        return true;
    }

    private int placeOf(long key, int size) {
        if (!isKeySize(size)) {
            return NONE;
        }
        long head = headOf(key, size);
        int at = now.firstNotBefore(head, size);
        return now.holds(at, head, size) ? at : NONE;
    }

    private static boolean isKeySize(int size) {
        return size >= 1 && size <= MOST_BYTES;
    }

    private static boolean isTextLength(int length) {
        return length >= 0 && length <= MOST_BYTES;
    }

    /** The key's bytes moved to the top of the long, so that keys of all sizes compare alike. */
    private static long headOf(long key, int size) {
        return key << unusedBits(size);
    }

    private static long lowestBytes(long bytes, int many) {
        // Java takes a shift by 64 for one by 0, so no bytes at all stand apart.
        return many == 0 ? 0L : bytes & (-1L >>> unusedBits(many));
    }

    private static int unusedBits(int bytes) {
        return LONG_BITS - BYTE_BITS * bytes;
    }

    /** Up to 150 keys in ORDER with their texts. */
    private static final class Rows {

        final long[] heads;
        final int[] sizes;
        final long[] texts;
        final int[] lengths;
        int used;

        Rows() {
            heads = new long[MOST_KEYS];
            sizes = new int[MOST_KEYS];
            texts = new long[MOST_KEYS];
            lengths = new int[MOST_KEYS];
            used = 0;
        }

        boolean has(int at) {
            return at >= 0 && at < used;
        }

        boolean holds(int at, long head, int size) {
            return has(at) && heads[at] == head && sizes[at] == size;
        }

        /** How many keys are before this one: the place that it has or would have. */
        int firstNotBefore(long head, int size) {
            int at = 0;
            for (int step = WIDEST_STEP; step > 0; step /= 2) {
                if (isBefore(at + step - 1, head, size)) {
                    at += step;
                }
            }
            return at;
        }

        boolean isBefore(int at, long head, int size) {
            if (!has(at)) {
                return false;
            }
            if (heads[at] != head) {
                return heads[at] + SIGN < head + SIGN;
            }
            // Equal heads differ only in zero bytes at the end: the shorter begins the longer.
            return sizes[at] < size;
        }

        boolean set(long head, int size, long text, int length) {
            int at = firstNotBefore(head, size);
            if (!holds(at, head, size) && !makeRoom(at)) {
                return false;
            }
            heads[at] = head;
            sizes[at] = size;
            texts[at] = text;
            lengths[at] = length;
            return true;
        }

        boolean makeRoom(int at) {
            if (used >= MOST_KEYS || at < 0 || at > used) {
                return false;
            }
            move(at, at + 1, used - at);
            used++;
            return true;
        }

        void drop(int at) {
            if (has(at)) {
                move(at + 1, at, used - at - 1);
                used--;
            }
        }

        void move(int from, int to, int many) {
            System.arraycopy(heads, from, heads, to, many);
            System.arraycopy(sizes, from, sizes, to, many);
            System.arraycopy(texts, from, texts, to, many);
            System.arraycopy(lengths, from, lengths, to, many);
        }

        void copyFrom(Rows other) {
            System.arraycopy(other.heads, 0, heads, 0, other.used);
            System.arraycopy(other.sizes, 0, sizes, 0, other.used);
            System.arraycopy(other.texts, 0, texts, 0, other.used);
            System.arraycopy(other.lengths, 0, lengths, 0, other.used);
            used = other.used;
        }
    }
}

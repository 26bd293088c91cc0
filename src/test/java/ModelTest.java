import java.util.Arrays;
import java.util.Map;
import java.util.Random;
import java.util.TreeMap;

/** Long runs of calls, the same each time, on a BlockTree and on a plain map of byte rows. */
public final class ModelTest {
    private static final int RUNS = 400;
    private static final int CALLS = 512;
    private static final int[] BYTES = {0, 1, 0x61, 0x7f, 0x80, 0xfe, 0xff};

    private static final Checks c = new Checks();

    public static void main(String[] args) {
        int fullest = 0;
        for (int run = 0; run < RUNS; run++) {
            fullest = Math.max(fullest, compare(run));
        }
        c.due("the most keys of any run", 150, fullest);
        c.end();
    }

    private static int compare(int run) {
        Random random = new Random(run);
        BlockTree tree = new BlockTree();
        Model model = new Model();
        int puts = 20 + random.nextInt(70);
        int kinds = 1 + random.nextInt(BYTES.length);
        int longest = 1 + random.nextInt(8);
        int fullest = 0;
        for (int i = 0; i < CALLS; i++) {
            int size = oddly(random, 1 + random.nextInt(longest));
            long key = row(random, kinds);
            String call = "run " + run + ", call " + i + ": ";
            if (random.nextInt(100) < puts) {
                int length = oddly(random, random.nextInt(9));
                long text = random.nextLong();
                c.due(call + "put", model.put(key, size, text, length), tree.put(key, size, text, length));
            } else {
                other(call, random.nextInt(40), tree, model, key, size);
            }
            fullest = Math.max(fullest, model.rows.size());
        }
        return fullest;
    }

    private static void other(String call, int which, BlockTree tree, Model model, long key, int size) {
        if (which < 8) {
            c.due(call + "remove", model.remove(key, size), tree.remove(key, size));
        } else if (which < 12) {
            c.due(call + "length", model.length(key, size), tree.length(key, size));
        } else if (which < 16) {
            c.due(call + "text", model.text(key, size), tree.text(key, size));
        } else if (which < 20) {
            c.due(call + "seek", model.seek(key, size), tree.seek(key, size));
        } else if (which < 24) {
            c.due(call + "before", model.before(key, size), tree.before(key, size));
        } else if (which < 29) {
            c.due(call + "foundSize", model.found.length, tree.foundSize());
        } else if (which < 34) {
            c.due(call + "found", number(model.found), tree.found());
        } else if (which < 38) {
            c.due(call + "count", model.rows.size(), tree.count());
        } else if (which < 39) {
            model.kept = new TreeMap<>(model.rows);
            tree.commit();
        } else {
            model.rows = new TreeMap<>(model.kept);
            tree.revert();
        }
    }

    private static int oddly(Random random, int usual) {
        return random.nextInt(50) == 0 ? random.nextInt(20) - 5 : usual;
    }

    private static long row(Random random, int kinds) {
        long row = 0;
        for (int i = 0; i < 8; i++) {
            row = row << 8 | BYTES[random.nextInt(kinds)];
        }
        return row;
    }

    private static byte[] bytes(long told, int many) {
        byte[] bytes = new byte[many];
        for (int i = 0; i < many; i++) {
            bytes[i] = (byte) (told >> 8 * (many - 1 - i));
        }
        return bytes;
    }

    private static long number(byte[] bytes) {
        long number = 0;
        for (byte b : bytes) {
            number = number * 256 + (b & 0xff);
        }
        return number;
    }

    private static final class Model {
        TreeMap<byte[], byte[]> rows = new TreeMap<>(Arrays::compareUnsigned);
        TreeMap<byte[], byte[]> kept = new TreeMap<>(Arrays::compareUnsigned);
        byte[] found = {};

        boolean put(long key, int size, long text, int length) {
            if (wrong(size) || length < 0 || length > 8) {
                return false;
            }
            byte[] row = bytes(key, size);
            if (!rows.containsKey(row) && rows.size() == 150) {
                return false;
            }
            rows.put(row, bytes(text, length));
            return true;
        }

        boolean remove(long key, int size) {
            return !wrong(size) && rows.remove(bytes(key, size)) != null;
        }

        int length(long key, int size) {
            byte[] text = wrong(size) ? null : rows.get(bytes(key, size));
            return text == null ? -1 : text.length;
        }

        long text(long key, int size) {
            byte[] text = wrong(size) ? null : rows.get(bytes(key, size));
            return text == null ? 0 : number(text);
        }

        boolean seek(long key, int size) {
            return note(wrong(size) ? null : rows.ceilingEntry(bytes(key, size)));
        }

        boolean before(long key, int size) {
            return note(wrong(size) ? null : rows.lowerEntry(bytes(key, size)));
        }

        private boolean note(Map.Entry<byte[], byte[]> entry) {
            found = entry == null ? new byte[0] : entry.getKey();
            return entry != null;
        }

        private static boolean wrong(int size) {
            return size < 1 || size > 8;
        }
    }
}

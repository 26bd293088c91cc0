import java.io.IOException;
import java.nio.file.Files;
import java.nio.file.Path;
import java.util.List;
import java.util.TreeSet;
import java.util.regex.Matcher;
import java.util.regex.Pattern;

/** Does the calls of README.md's examples: what is said there of an answer is what the class answers. */
public final class ReadmeTest {
    private static final Pattern CALL = Pattern.compile("tree\\.(\\w+)\\(([^()]*)\\);(?: +// (.*))?");
    private static final String NEW_TREE = "BlockTree tree = new BlockTree();";
    private static final int METHODS_OF_THE_FACE = 11;

    private static final Checks c = new Checks();
    private static final TreeSet<String> called = new TreeSet<>();

    public static void main(String[] args) throws IOException {
        BlockTree tree = null;
        boolean inExample = false;
        List<String> lines = Files.readAllLines(Path.of("README.md"));
        for (int i = 0; i < lines.size(); i++) {
            String line = lines.get(i).strip();
            String where = "README.md, line " + (i + 1) + ": ";
            if (line.startsWith("```")) {
                inExample = line.equals("```java");
                tree = null;
            } else if (inExample && line.equals(NEW_TREE)) {
                c.due(where + "the only tree of its example", true, tree == null);
                tree = new BlockTree();
            } else if (inExample && !line.isEmpty()) {
                callDue(where + line, tree, CALL.matcher(line));
            }
        }
        c.due("methods called in README.md, of " + called, METHODS_OF_THE_FACE, called.size());
        c.end();
    }

    private static void callDue(String where, BlockTree tree, Matcher call) {
        boolean isCall = call.matches();
        c.due(where + " | is a call on the example's tree", true, isCall && tree != null);
        if (!isCall || tree == null) {
            return;
        }
        String name = call.group(1);
        called.add(name);
        String got = answer(tree, name, numbers(call.group(2)));
        if (!got.isEmpty()) {
            c.due(where + " | the call", said(call.group(3)), got);
        }
    }

    /** The answer in words, empty for a call that answers nothing. */
    private static String answer(BlockTree tree, String name, long[] given) {
        switch (name + " of " + given.length) {
            case "put of 4": return "" + tree.put(given[0], size(given[1]), given[2], size(given[3]));
            case "remove of 2": return "" + tree.remove(given[0], size(given[1]));
            case "length of 2": return "" + tree.length(given[0], size(given[1]));
            case "text of 2": return "" + tree.text(given[0], size(given[1]));
            case "seek of 2": return "" + tree.seek(given[0], size(given[1]));
            case "before of 2": return "" + tree.before(given[0], size(given[1]));
            case "foundSize of 0": return "" + tree.foundSize();
            case "found of 0": return "" + tree.found();
            case "count of 0": return "" + tree.count();
            case "commit of 0": tree.commit(); return "";
            case "revert of 0": tree.revert(); return "";
            default: return "that there is no such method";
        }
    }

    /** What stands behind a call: the answer and, after a colon, what it means. */
    private static String said(String comment) {
        if (comment == null) {
            return "an answer that README.md does not tell";
        }
        String answer = comment.split(":", 2)[0].strip();
        try {
            return "" + number(answer);
        } catch (NumberFormatException notANumber) {
            return answer;
        }
    }

    private static long[] numbers(String given) {
        if (given.isEmpty()) {
            return new long[0];
        }
        String[] words = given.split(", ");
        long[] numbers = new long[words.length];
        for (int i = 0; i < words.length; i++) {
            numbers[i] = number(words[i]);
        }
        return numbers;
    }

    /** As Java reads it: without an L it is an int, so that 0xffffffff is -1. */
    private static long number(String word) {
        if (word.equals("BlockTree.NONE")) {
            return BlockTree.NONE;
        }
        boolean isLong = word.endsWith("L");
        String digits = isLong ? word.substring(0, word.length() - 1) : word;
        if (digits.startsWith("0x")) {
            String hex = digits.substring(2);
            return isLong ? Long.parseUnsignedLong(hex, 16) : Integer.parseUnsignedInt(hex, 16);
        }
        return isLong ? Long.parseLong(digits) : Integer.parseInt(digits);
    }

    private static int size(long given) {
        return Math.toIntExact(given);
    }
}

import java.util.ArrayList;
import java.util.HashSet;
import java.util.List;
import java.util.Set;
import java.util.regex.Matcher;
import java.util.regex.Pattern;

/** What the document says of texts, in another way than the program: by patterns of whole texts. */
final class TextModel {
    private static final String NUMBER = "(?:0|[1-9][0-9]?)";
    private static final String LEAF = "[a-z]{1,5}" + NUMBER + "(?:<" + NUMBER + ")?(?:>" + NUMBER + ")?";
    private static final Pattern TEXT = Pattern.compile("(?:" + within(within(within(LEAF))) + ")+");
    private static final Pattern LEAF_PARTS = Pattern.compile("([a-z]+)([0-9]+)(?:<([0-9]+))?(?:>([0-9]+))?");
    private static final Pattern LETTERS = Pattern.compile("[a-z]+");
    private static final String[] BEGINNINGS = {"", "1", "a1", ":a1", "1:a1"};
    private static final String[] ENDS = {"", "]", "]]", "]]]"};

    private TextModel() {
    }

    private static String within(String block) {
        return "(?:" + LEAF + "|\\[[1-9]:" + block + "(?:," + block + ")*\\])";
    }

    static boolean isText(String text) {
        if (!TEXT.matcher(text).matches()) {
            return false;
        }
        Matcher runs = LETTERS.matcher(text);
        while (runs.find()) {
            Set<Integer> different = new HashSet<>();
            runs.group().chars().forEach(different::add);
            if (different.size() != runs.group().length()) {
                return false;
            }
        }
        return true;
    }

    /** -1 for no fault: else the first sign that no text with all before it can go on with. */
    static int faultOf(String text) {
        if (isText(text)) {
            return -1;
        }
        for (int end = 1; end <= text.length(); end++) {
            if (!canContinue(text.substring(0, end))) {
                return end - 1;
            }
        }
        return text.length();
    }

    private static boolean canContinue(String beginning) {
        for (String more : BEGINNINGS) {
            for (String end : ENDS) {
                if (isText(beginning + more + end)) {
                    return true;
                }
            }
        }
        return false;
    }

    static final class Node {
        final int number;
        final Node parent;
        final int depth;
        final List<Node> parts = new ArrayList<>();
        String letters = "";
        int need;
        int term = -1;
        int grade = -1;

        Node(int number, Node parent, int depth) {
            this.number = number;
            this.parent = parent;
            this.depth = depth;
            if (parent != null) {
                parent.parts.add(this);
            }
        }

        boolean isLeaf() {
            return !letters.isEmpty();
        }

        boolean isOver(Node other) {
            for (Node n = other; n != null; n = n.parent) {
                if (n == this) {
                    return true;
                }
            }
            return false;
        }
    }

    /** The blocks of a text without fault. */
    static List<Node> blocksOf(String text) {
        List<Node> blocks = new ArrayList<>();
        Node open = null;
        int depth = 0;
        Matcher leaf = LEAF_PARTS.matcher(text);
        for (int i = 0; i < text.length();) {
            char c = text.charAt(i);
            if (c == '[') {
                open = new Node(blocks.size(), open, depth++);
                open.need = text.charAt(i + 1) - '0';
                blocks.add(open);
                i += 3;
            } else if (c == ']') {
                open = open.parent;
                depth--;
                i++;
            } else if (c == ',') {
                i++;
            } else if (leaf.find(i)) {
                Node node = new Node(blocks.size(), open, depth);
                node.letters = leaf.group(1);
                node.need = Integer.parseInt(leaf.group(2));
                node.term = leaf.group(3) == null ? 60 : Integer.parseInt(leaf.group(3));
                node.grade = leaf.group(4) == null ? 10 : Integer.parseInt(leaf.group(4));
                blocks.add(node);
                i = leaf.end();
            }
        }
        return blocks;
    }

    /** 0 for no reason. */
    static int reasonAgainst(List<Node> blocks) {
        for (Node n : blocks) {
            if (n.isLeaf() && (n.need < 1 || n.need > 30 || n.term > 60 || n.grade < 10 || n.grade > 20)) {
                return 3;
            }
        }
        if (blocks.size() > 8 || blocks.stream().filter(Node::isLeaf).count() > 4) {
            return 4;
        }
        for (Node n : blocks) {
            if (!n.isLeaf() && n.need > n.parts.size()) {
                return 5;
            }
        }
        return 0;
    }
}

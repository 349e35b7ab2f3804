import java.util.ArrayList;
import java.util.List;

/**
 * The document again, in the plainest way: the grammar is read by recursion and exceptions, and
 * the fewest brackets are found by trying every bracketing. It shares nothing with the class.
 */
final class Model {
    static final class Operator {
        int symbol, kind, level;
    }

    static final class Tree {
        Operator operator;
        int letter;
        List<Tree> operands = new ArrayList<>();

        boolean equalTo(Tree other) {
            if (operator != other.operator || letter != other.letter) {
                return false;
            }
            for (int i = 0; i < operands.size(); i++) {
                if (!operands.get(i).equalTo(other.operands.get(i))) {
                    return false;
                }
            }
            return true;
        }

        int size() {
            int size = 1;
            for (Tree part : operands) {
                size += part.size();
            }
            return size;
        }
    }

    static final class Fault extends Exception {
        private static final long serialVersionUID = 1;
        final int kind, position;

        Fault(int kind, int position) {
            this.kind = kind;
            this.position = position;
        }
    }

    /** What parseExpression gives back. */
    private static final class Side {
        Tree tree;
        boolean bracketed;
    }

    final List<Operator> operators = new ArrayList<>();
    final int[] associativity = new int[10];
    final boolean[][] forbidden = new boolean[16][16];

    private String text;
    private int position;
    /** The trees of the latest text, in the order in which they were completed. */
    List<Tree> completed;

    Tree read(String whole) throws Fault {
        text = whole;
        position = 0;
        completed = new ArrayList<>();
        Side side = parseExpression(0);
        if (position < text.length()) {
            throw new Fault(4, position);
        }
        return side.tree;
    }

    private Operator find(char symbol, boolean prefix) {
        for (Operator operator : operators) {
            if (operator.symbol == symbol && prefix == (operator.kind == 1)) {
                return operator;
            }
        }
        return null;
    }

    private int rightLevel(Operator operator) {
        return associativity[operator.level] == 1 ? operator.level : operator.level + 1;
    }

    private void checkPair(Operator outer, Side inner, int place) throws Fault {
        if (!inner.bracketed && inner.tree.operator != null
                && forbidden[operators.indexOf(outer)][operators.indexOf(inner.tree.operator)]) {
            throw new Fault(6, place);
        }
    }

    private Side side(Tree tree, boolean bracketed) {
        Side side = new Side();
        side.tree = tree;
        side.bracketed = bracketed;
        return side;
    }

    private Tree complete(Operator operator, int letter, Tree... operands) {
        Tree tree = new Tree();
        tree.operator = operator;
        tree.letter = letter;
        tree.operands.addAll(List.of(operands));
        completed.add(tree);
        return tree;
    }

    private Side parseExpression(int min) throws Fault {
        Side left = parseOperand();
        while (position < text.length() && text.charAt(position) != ')') {
            int place = position;
            Operator operator = find(text.charAt(place), false);
            if (operator == null) {
                throw new Fault(2, place);
            }
            if (operator.level < min) {
                return left;
            }
            position++;
            if (operator.kind == 2) {
                checkPair(operator, left, place);
                left = side(complete(operator, 0, left.tree), false);
                continue;
            }
            Operator inner = left.tree.operator;
            if (associativity[operator.level] == 2 && !left.bracketed && inner != null && inner.kind == 0 && inner.level == operator.level) {
                throw new Fault(5, place);
            }
            checkPair(operator, left, place);
            Side right = parseExpression(rightLevel(operator));
            checkPair(operator, right, place);
            left = side(complete(operator, 0, left.tree, right.tree), false);
        }
        return left;
    }

    private Side parseOperand() throws Fault {
        int place = position;
        if (place == text.length()) {
            throw new Fault(1, place);
        }
        char token = text.charAt(place);
        position++;
        if (token >= 'a' && token <= 'z') {
            return side(complete(null, token), false);
        }
        if (token == '(') {
            Side inside = parseExpression(0);
            if (position == text.length() || text.charAt(position) != ')') {
                throw new Fault(3, position);
            }
            position++;
            return side(inside.tree, true);
        }
        Operator operator = find(token, true);
        if (operator == null) {
            throw new Fault(1, place);
        }
        Side operand = parseExpression(operator.level);
        checkPair(operator, operand, place);
        return side(complete(operator, 0, operand.tree), false);
    }

    /** The bits of the mask, the highest first, say which operator occurrences are bracketed, in preorder. */
    String write(Tree tree, boolean[] brackets) {
        StringBuilder out = new StringBuilder();
        write(tree, brackets, new int[] {-1}, out);
        return out.toString();
    }

    private void write(Tree tree, boolean[] brackets, int[] next, StringBuilder out) {
        if (tree.operator == null) {
            out.append((char) tree.letter);
            return;
        }
        int occurrence = next[0]++;
        boolean bracket = occurrence >= 0 && brackets[occurrence];
        out.append(bracket ? "(" : "");
        if (tree.operator.kind == 1) {
            out.append((char) tree.operator.symbol);
            write(tree.operands.get(0), brackets, next, out);
        } else {
            write(tree.operands.get(0), brackets, next, out);
            out.append((char) tree.operator.symbol);
            if (tree.operator.kind == 0) {
                write(tree.operands.get(1), brackets, next, out);
            }
        }
        out.append(bracket ? ")" : "");
    }

    /** The number of operator occurrences, without the root. */
    int choices(Tree tree) {
        return Math.max(0, operatorOccurrences(tree) - 1);
    }

    private int operatorOccurrences(Tree tree) {
        int sum = tree.operator == null ? 0 : 1;
        for (Tree part : tree.operands) {
            sum += operatorOccurrences(part);
        }
        return sum;
    }

    String full(Tree tree) {
        boolean[] all = new boolean[choices(tree)];
        java.util.Arrays.fill(all, true);
        return write(tree, all);
    }

    /** Tries every bracketing; the smaller mask of two with as many pairs is the preferred one. */
    String fewest(Tree tree) {
        int choices = choices(tree);
        String best = null;
        int bestPairs = choices + 1;
        for (int mask = 0; mask < 1 << choices; mask++) {
            if (Integer.bitCount(mask) < bestPairs) {
                boolean[] brackets = new boolean[choices];
                for (int i = 0; i < choices; i++) {
                    brackets[i] = (mask >> (choices - 1 - i) & 1) == 1;
                }
                String text = write(tree, brackets);
                if (readsAs(text, tree)) {
                    best = text;
                    bestPairs = Integer.bitCount(mask);
                }
            }
        }
        return best;
    }

    boolean readsAs(String text, Tree tree) {
        try {
            return read(text).equalTo(tree);
        } catch (Fault fault) {
            return false;
        }
    }

    /** The text without one pair, or null if there is no such pair. */
    static String without(String text, int pair) {
        int open = -1;
        for (int i = 0; i <= pair; i++) {
            open = text.indexOf('(', open + 1);
            if (open < 0) {
                return null;
            }
        }
        int close = open;
        for (int depth = 1; depth > 0;) {
            close++;
            depth += text.charAt(close) == '(' ? 1 : text.charAt(close) == ')' ? -1 : 0;
        }
        return text.substring(0, open) + text.substring(open + 1, close) + text.substring(close + 1);
    }
}

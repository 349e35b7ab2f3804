/** Promises 11 to 19: the trees. */
public final class TreesTest {
    private static final int PLUS = 0, MINUS = 3, FACTORIAL = 4;
    private static final int[] FAR = {Integer.MIN_VALUE, Integer.MAX_VALUE, -1, -2};
    private static final Check check = new Check();

    public static void main(String[] args) {
        leaves();
        unaryNodes();
        binaryNodes();
        sizes();
        tooManyNodes();
        hundredth();
        lookups();
        equality();
        sharedNodes();
        check.end("TreesTest");
    }

    private static void leaves() {
        for (int c = -2; c < 300; c++) {
            int want = c >= 'a' && c <= 'z' ? 0 : ExpressionPrinter.BAD_SYMBOL;
            ExpressionPrinter x = new ExpressionPrinter();
            check.due("11: leaf(" + c + ")", x.leaf(c), want);
            check.due("14: nodeCount", x.nodeCount(), want == 0 ? 1 : 0);
        }
        for (int c : FAR) {
            check.due("11: leaf(" + c + ")", new ExpressionPrinter().leaf(c), ExpressionPrinter.BAD_SYMBOL);
        }
        ExpressionPrinter x = new ExpressionPrinter();
        check.due("11: first", x.leaf('q'), 0);
        check.due("11: same letter again", x.leaf('q'), 1);
        check.due("14: nodeCount", x.nodeCount(), 2);
    }

    private static void unaryNodes() {
        ExpressionPrinter x = Check.usual();
        check.due("12: operator first", x.unary(7, 5), ExpressionPrinter.NO_SUCH_OPERATOR);
        check.due("12: kind before node", x.unary(PLUS, 5), ExpressionPrinter.WRONG_KIND);
        check.due("12: node", x.unary(MINUS, 0), ExpressionPrinter.NO_SUCH_NODE);
        int a = x.leaf('a');
        for (int far : FAR) {
            check.due("12: operator " + far, x.unary(far, a), ExpressionPrinter.NO_SUCH_OPERATOR);
            check.due("12: operand " + far, x.unary(MINUS, far), ExpressionPrinter.NO_SUCH_NODE);
        }
        check.due("12: node itself", x.unary(MINUS, 1), ExpressionPrinter.NO_SUCH_NODE);
        check.due("12: prefix", x.unary(MINUS, a), 1);
        check.due("12: postfix", x.unary(FACTORIAL, 1), 2);
        check.due("14: nodeCount", x.nodeCount(), 3);
        check.due("12: text", Check.printedFull(x, 2), "(-a)!");
    }

    private static void binaryNodes() {
        ExpressionPrinter x = Check.usual();
        check.due("13: operator first", x.binary(7, 5, 5), ExpressionPrinter.NO_SUCH_OPERATOR);
        check.due("13: kind before node", x.binary(MINUS, 5, 5), ExpressionPrinter.WRONG_KIND);
        check.due("13: kind before node", x.binary(FACTORIAL, 5, 5), ExpressionPrinter.WRONG_KIND);
        int a = x.leaf('a');
        int b = x.leaf('b');
        for (int far : FAR) {
            check.due("13: operator " + far, x.binary(far, a, b), ExpressionPrinter.NO_SUCH_OPERATOR);
            check.due("13: left " + far, x.binary(PLUS, far, b), ExpressionPrinter.NO_SUCH_NODE);
            check.due("13: right " + far, x.binary(PLUS, a, far), ExpressionPrinter.NO_SUCH_NODE);
        }
        check.due("13: right is not there", x.binary(PLUS, a, 2), ExpressionPrinter.NO_SUCH_NODE);
        check.due("13: left is not there", x.binary(PLUS, 2, a), ExpressionPrinter.NO_SUCH_NODE);
        check.due("13: ordinary", x.binary(PLUS, a, b), 2);
        check.due("13: same node twice", x.binary(PLUS, 2, 2), 3);
        check.due("14: nodeCount", x.nodeCount(), 4);
        check.due("13: text", Check.printedFull(x, 3), "(a+b)+(a+b)");
    }

    private static void sizes() {
        ExpressionPrinter x = Check.usual();
        int node = x.leaf('a');
        check.due("18: leaf", x.size(node), 1);
        for (int size = 2; size <= 40; size++) {
            node = x.unary(size % 2 == 0 ? MINUS : FACTORIAL, node);
            check.due("18: chain", x.size(node), size);
        }
        check.due("12: 41", x.unary(MINUS, node), ExpressionPrinter.TOO_LARGE);
        check.due("12: 41", x.unary(FACTORIAL, node), ExpressionPrinter.TOO_LARGE);
        check.due("13: 41 and more", x.binary(PLUS, node, 0), ExpressionPrinter.TOO_LARGE);
        check.due("13: 81", x.binary(PLUS, node, node), ExpressionPrinter.TOO_LARGE);
        check.due("14: nodeCount", x.nodeCount(), 40);
        check.due("13: 1+20+20", x.binary(PLUS, 19, 19), ExpressionPrinter.TOO_LARGE);
        check.due("13: 1+20+19", x.binary(PLUS, 19, 18), 40);
        check.due("18: 40", x.size(40), 40);
        check.due("13: 1+1+38", x.binary(PLUS, 0, 37), 41);
        check.due("18: 40", x.size(41), 40);
        check.due("18: not there", x.size(42), ExpressionPrinter.NO_SUCH_NODE);
        for (int far : FAR) {
            check.due("18: size(" + far + ")", x.size(far), ExpressionPrinter.NO_SUCH_NODE);
        }
    }

    private static void tooManyNodes() {
        ExpressionPrinter x = Check.usual();
        int chain = x.leaf('a');
        for (int size = 2; size <= 40; size++) {
            chain = x.unary(MINUS, chain);
        }
        for (int node = 40; node < 99; node++) {
            check.due("11: leaf", x.leaf('b'), node);
        }
        check.due("13: 100th", x.binary(PLUS, 0, 0), 99);
        check.due("11: 101st", x.leaf('b'), ExpressionPrinter.TOO_MANY);
        check.due("12: 101st", x.unary(MINUS, 0), ExpressionPrinter.TOO_MANY);
        check.due("13: 101st", x.binary(PLUS, 0, 0), ExpressionPrinter.TOO_MANY);
        check.due("14: nodeCount", x.nodeCount(), 100);
        check.due("11: letter first", x.leaf('B'), ExpressionPrinter.BAD_SYMBOL);
        check.due("12: size first", x.unary(MINUS, chain), ExpressionPrinter.TOO_LARGE);
        check.due("13: size first", x.binary(PLUS, chain, 0), ExpressionPrinter.TOO_LARGE);
        check.due("12: node first", x.unary(MINUS, 100), ExpressionPrinter.NO_SUCH_NODE);
        check.due("13: node first", x.binary(PLUS, chain, 100), ExpressionPrinter.NO_SUCH_NODE);
        check.due("20: last node", Check.printed(x, 99), "a+a");
        check.due("20: 100", x.print(100), ExpressionPrinter.NO_SUCH_NODE);
    }

    private static void hundredth() {
        for (int kind = 0; kind < 3; kind++) {
            ExpressionPrinter x = Check.usual();
            for (int node = 0; node < 99; node++) {
                x.leaf('b');
            }
            int got = kind == 0 ? x.leaf('z') : kind == 1 ? x.unary(MINUS, 98) : x.binary(PLUS, 98, 0);
            check.due("11 to 13: 100th", got, 99);
            check.due("14: nodeCount", x.nodeCount(), 100);
            check.due("20: the 100th", Check.printed(x, 99), kind == 0 ? "z" : kind == 1 ? "-b" : "b+b");
            check.due("11: 101st", x.leaf('z'), ExpressionPrinter.TOO_MANY);
        }
    }

    private static void lookups() {
        ExpressionPrinter x = Check.usual();
        int a = x.leaf('a');
        int z = x.leaf('z');
        int prefix = x.unary(MINUS, z);
        int postfix = x.unary(FACTORIAL, a);
        int infix = x.binary(PLUS, postfix, prefix);
        check.due("15: leaf", x.operatorOf(a), ExpressionPrinter.NONE);
        check.due("15: infix of index 0", x.operatorOf(infix), PLUS);
        check.due("15: prefix", x.operatorOf(prefix), MINUS);
        check.due("15: postfix", x.operatorOf(postfix), FACTORIAL);
        check.due("16: a", x.letterOf(a), 'a');
        check.due("16: z", x.letterOf(z), 'z');
        check.due("16: operator", x.letterOf(infix), ExpressionPrinter.NONE);
        int[][] operands = {{a, -10, -10}, {prefix, z, -10}, {postfix, a, -10}, {infix, postfix, prefix}};
        int[] badIndices = {-1, 2, Integer.MIN_VALUE, Integer.MAX_VALUE};
        for (int[] row : operands) {
            check.due("17: operand(" + row[0] + ", 0)", x.operand(row[0], 0), row[1]);
            check.due("17: operand(" + row[0] + ", 1)", x.operand(row[0], 1), row[2]);
            for (int index : badIndices) {
                check.due("17: operand(" + row[0] + ", " + index + ")", x.operand(row[0], index), ExpressionPrinter.NONE);
            }
        }
        int[] none = {5, -1, 100, 120, Integer.MIN_VALUE, Integer.MAX_VALUE};
        for (int node : none) {
            check.due("15: " + node, x.operatorOf(node), ExpressionPrinter.NO_SUCH_NODE);
            check.due("16: " + node, x.letterOf(node), ExpressionPrinter.NO_SUCH_NODE);
            check.due("17: " + node, x.operand(node, 0), ExpressionPrinter.NO_SUCH_NODE);
            check.due("17: node before index " + node, x.operand(node, 5), ExpressionPrinter.NO_SUCH_NODE);
            check.due("19: " + node, x.areEqual(node, 0), ExpressionPrinter.NO_SUCH_NODE);
            check.due("19: " + node, x.areEqual(0, node), ExpressionPrinter.NO_SUCH_NODE);
            check.due("19: both " + node, x.areEqual(node, node), ExpressionPrinter.NO_SUCH_NODE);
        }
    }

    private static void equality() {
        String[] texts = {"a", "b", "a+b", "b+a", "a*b", "+a", "-a", "a!", "a?", "-a!", "(-a)!", "a+b+c", "a+(b+c)", "a+a", "+b"};
        for (String text : texts) {
            ExpressionPrinter x = Check.usual();
            x.definePrefix('+', 4);
            x.definePostfix('?', 8);
            int one = Check.parsed(x, text);
            for (String otherText : texts) {
                int other = Check.parsed(x, otherText);
                int want = text.equals(otherText) ? 1 : 0;
                check.due("19: " + text + " and " + otherText, x.areEqual(one, other), want);
                check.due("19: " + otherText + " and " + text, x.areEqual(other, one), want);
            }
            check.due("19: itself", x.areEqual(one, one), 1);
        }
    }

    private static void sharedNodes() {
        ExpressionPrinter x = Check.usual();
        int a = x.leaf('a');
        int other = x.leaf('a');
        int one = x.binary(PLUS, a, a);
        int two = x.binary(PLUS, a, other);
        check.due("19: shared and not", x.areEqual(one, two), 1);
        check.due("19: doubled", x.areEqual(x.binary(PLUS, one, one), x.binary(PLUS, two, one)), 1);
        int chain = a;
        int again = other;
        for (int size = 2; size <= 40; size++) {
            chain = x.unary(MINUS, chain);
            again = x.unary(MINUS, again);
        }
        check.due("19: size 40", x.areEqual(chain, again), 1);
        check.due("19: sizes 40 and 39", x.areEqual(chain, x.operand(again, 0)), 0);
        check.due("19: sizes 39 and 40", x.areEqual(x.operand(again, 0), chain), 0);
    }
}

/** States of an object that the tests start from; each makes a new object with at most 200 calls. */
final class States {
    /** The operators of Check.usual. */
    static final int PLUS = 0, TIMES = 1, POWER = 2, MINUS = 3, FACTORIAL = 4, TILDE = 5, LESS = 6;

    private States() {
    }

    /** Something of everything: forbidden pairs, nodes, an output with pairs, an input, a stored error. */
    static ExpressionPrinter busy() {
        ExpressionPrinter x = Check.usual();
        x.setForbidden(PLUS, TIMES, true);
        x.setForbidden(MINUS, MINUS, true);
        Check.parsed(x, "a<b<c");
        int root = Check.parsed(x, "((a+b)*c)<(d<e)");
        x.binary(PLUS, root, root);
        x.printFull(root);
        Check.type(x, "a+b!");
        return x;
    }

    /** Sixteen operators of eight symbols: A to D are INFIX, E to H are POSTFIX, and all are PREFIX too. */
    static ExpressionPrinter sixteenOperators() {
        ExpressionPrinter x = new ExpressionPrinter();
        for (int i = 0; i < 4; i++) {
            x.defineInfix('A' + i, 1 + i);
            x.definePostfix('E' + i, 6 + i);
        }
        for (int i = 0; i < 8; i++) {
            x.definePrefix('A' + i, 9 - i);
        }
        x.printFull(Check.parsed(x, "a" + "A" + "HbE" + "B" + "c"));
        return x;
    }

    /** Node 39 has the size 40, node 0 the size 1; the input can be read, but there is no room for its tree. */
    static ExpressionPrinter hundredNodes() {
        ExpressionPrinter x = nodes(100);
        x.printFull(39);
        Check.type(x, "a+b");
        return x;
    }

    /**
     * At least 40 nodes: one or two chains of size 40, with - at the root, ! and - in turns below and a!! at
     * the end, so that node n of the first has the size n + 1; and leaves for the rest.
     */
    static ExpressionPrinter nodes(int count) {
        ExpressionPrinter x = Check.usual();
        Check.type(x, "-(".repeat(19) + "a!" + ")!".repeat(19));
        x.parse();
        if (count >= 80) {
            x.parse();
        }
        for (int node = x.nodeCount(); node < count; node++) {
            x.leaf('b');
        }
        x.clearInput();
        return x;
    }

    /** An input of 120 characters, read without an error, whose tree has the size 40. */
    static ExpressionPrinter fullInput() {
        ExpressionPrinter x = Check.usual();
        Check.type(x, "(".repeat(40) + "a" + ")!".repeat(39) + ")");
        return x;
    }

    /** An input that is read without an error, whose tree has the size 41. */
    static ExpressionPrinter largeInput() {
        ExpressionPrinter x = States.busy();
        Check.type(x, "a+".repeat(20) + "a");
        return x;
    }

    /** An input with an error, after an error of another kind at another place. */
    static ExpressionPrinter brokenInput() {
        ExpressionPrinter x = States.busy();
        Check.type(x, "(a+b");
        return x;
    }

    /** A leaf is printed, so that there is a text, but no pair. */
    static ExpressionPrinter printedLeaf() {
        ExpressionPrinter x = new ExpressionPrinter();
        x.print(x.leaf('z'));
        return x;
    }
}

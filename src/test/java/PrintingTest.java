/** Promises 20 to 24: printing, and reading the output without one pair. */
public final class PrintingTest {
    private static final int[] FAR = {Integer.MIN_VALUE, Integer.MAX_VALUE, -1, 100, 120};
    private static final Check check = new Check();

    public static void main(String[] args) {
        fewestBrackets();
        quirksOfTheGrammar();
        bracketsThatAreTraded();
        fullBrackets();
        outputAndPairs();
        outputIsReplaced();
        longestOutput();
        readWithout();
        readWithoutUsesOperatorsOfNow();
        check.end("PrintingTest");
    }

    /** Each text is read and printed again: what it needs stays, what it doesn't need goes. */
    private static void printsAs(ExpressionPrinter x, String text, String want) {
        int root = Check.parsed(x, text);
        check.due("20: print of " + text, Check.printed(x, root), want);
        x.copyOutput();
        check.due("20: read back " + text, x.areEqual(root, x.parse()), 1);
        check.due("23: pairs of " + text, x.bracketPairs(), want.chars().filter(c -> c == '(').count());
    }

    private static void fewestBrackets() {
        String[][] texts = {
            {"(a)", "a"}, {"((a+b))", "a+b"}, {"(a+b)*c", "(a+b)*c"}, {"(a*b)+c", "a*b+c"}, {"a+(b*c)", "a+b*c"},
            {"a*(b+c)", "a*(b+c)"}, {"(a+b)+c", "a+b+c"}, {"a+(b+c)", "a+(b+c)"}, {"(a^b)^c", "(a^b)^c"},
            {"a^(b^c)", "a^b^c"}, {"(a<b)<c", "(a<b)<c"}, {"a<(b<c)", "a<(b<c)"}, {"(-a)^b", "(-a)^b"}, {"-(a^b)", "-a^b"},
            {"(-a)*b", "-a*b"}, {"-(a*b)", "-(a*b)"}, {"(-a)!", "(-a)!"}, {"-(a!)", "-a!"}, {"(a+b)!", "(a+b)!"},
            {"-(-a)", "--a"}, {"(a!)!", "a!!"}, {"a^(-b)", "a^-b"}, {"(a!)^(-b)", "a!^-b"}, {"~(a+b)", "~a+b"}, {"(~a)+b", "(~a)+b"},
            {"(~a)<b", "~a<b"}, {"a*(~b)", "a*~b"}, {"(a*(~b))+c", "a*(~b)+c"}, {"a*(~(b+c))", "a*~b+c"},
            {"(a*(~b))<c", "a*~b<c"},
        };
        for (String[] row : texts) {
            printsAs(Check.usual(), row[0], row[1]);
        }
    }

    private static void quirksOfTheGrammar() {
        ExpressionPrinter x = Check.usual();
        x.definePostfix('?', 4);
        x.definePrefix('@', 5);
        x.definePrefix('>', 1);
        printsAs(x, "(a?)*b", "a?*b");
        printsAs(x, "a*(b?)", "a*(b?)");
        printsAs(x, "(a*b)?", "a*b?");
        printsAs(x, "a<(>(b<c))", "a<>b<c");
        printsAs(x, "((a<b)?)<c", "(a<b)?<c");
        ExpressionPrinter y = new ExpressionPrinter();
        y.defineInfix('+', 9);
        y.definePostfix('!', 9);
        y.definePrefix('-', 9);
        y.definePrefix('+', 1);
        printsAs(y, "a+(b!)", "a+(b!)");
        printsAs(y, "(a+b)!", "a+b!");
        printsAs(y, "(-a)!", "(-a)!");
        printsAs(y, "-(a!)", "-a!");
        printsAs(y, "-(a+b)", "-a+b");
        printsAs(y, "a+(+(b+c))", "a++b+c");
        printsAs(y, "a+(+(+b))", "a+++b");
        printsAs(y, "(+a)+b", "(+a)+b");
    }

    /** A bracket at an outer node saves brackets inside, and ties go to the inner ones. */
    private static void bracketsThatAreTraded() {
        ExpressionPrinter x = new ExpressionPrinter();
        x.defineInfix('+', 4);
        x.defineInfix('*', 5);
        x.definePrefix('~', 3);
        printsAs(x, "a*((~b)+(~c))", "a*((~b)+~c)");
        printsAs(x, "(a*(~b))+c", "a*(~b)+c");
        printsAs(x, "((~a)*(~b))+c", "(~a)*(~b)+c");
        printsAs(x, "(a*(b*(~c)))+d", "a*(b*~c)+d");
        ExpressionPrinter y = Check.usual();
        y.definePostfix('?', 4);
        y.definePrefix('@', 5);
        printsAs(y, "(@((a?)*(~b)))+c", "@(a?*~b)+c");
        y.setForbidden(0, 8, true);
        y.setForbidden(1, 7, true);
        printsAs(y, "(@((a?)*(~b)))+c", "(@(a?)*~b)+c");
    }

    private static void fullBrackets() {
        ExpressionPrinter x = Check.usual();
        String[][] texts = {
            {"a", "a"}, {"a+b", "a+b"}, {"-a", "-a"}, {"a!", "a!"}, {"a+b+c", "(a+b)+c"}, {"--a!", "-(-(a!))"},
            {"a*~b+c", "a*(~(b+c))"}, {"a!!", "(a!)!"}, {"-a+b!", "(-a)+(b!)"},
        };
        for (String[] row : texts) {
            int root = Check.parsed(x, row[0]);
            check.due("21: printFull of " + row[0], Check.printedFull(x, root), row[1]);
            check.due("23: pairs of " + row[1], x.bracketPairs(), row[1].chars().filter(c -> c == '(').count());
            x.copyOutput();
            check.due("21: read back " + row[1], x.areEqual(root, x.parse()), 1);
        }
    }

    private static void outputAndPairs() {
        ExpressionPrinter x = Check.usual();
        int root = Check.parsed(x, "(a+b)*(c+d)");
        check.due("20: length", x.print(root), 11);
        check.due("22: first", x.outputAt(0), '(');
        check.due("22: last", x.outputAt(10), ')');
        check.due("22: symbol", x.outputAt(5), '*');
        check.due("22: after the last", x.outputAt(11), ExpressionPrinter.NO_SUCH_INDEX);
        for (int far : FAR) {
            check.due("22: outputAt(" + far + ")", x.outputAt(far), ExpressionPrinter.NO_SUCH_INDEX);
        }
        check.due("23: pairs", x.bracketPairs(), 2);
    }

    private static void outputIsReplaced() {
        ExpressionPrinter x = Check.usual();
        int big = Check.parsed(x, "(a+b)*(c+d)");
        int small = Check.parsed(x, "a+b");
        x.print(big);
        for (int far : FAR) {
            check.due("20: print(" + far + ")", x.print(far), ExpressionPrinter.NO_SUCH_NODE);
            check.due("21: printFull(" + far + ")", x.printFull(far), ExpressionPrinter.NO_SUCH_NODE);
        }
        check.due("20: an error changes nothing", Check.output(x), "(a+b)*(c+d)");
        check.due("24: nor the tree", x.readWithout(0), ExpressionPrinter.OTHER_TREE);
        check.due("20: replaced", Check.printed(x, small), "a+b");
        check.due("23: pairs", x.bracketPairs(), 0);
        check.due("21: replaced", Check.printedFull(x, big), "(a+b)*(c+d)");
        check.due("23: pairs", x.bracketPairs(), 2);
        check.due("20: the nodes stay", x.nodeCount(), 10);
    }

    private static void longestOutput() {
        ExpressionPrinter x = Check.usual();
        int node = x.leaf('a');
        for (int size = 2; size <= 40; size++) {
            node = x.unary(size % 2 == 0 ? 3 : 4, node);
        }
        check.due("21: length", x.printFull(node), 116);
        check.due("23: pairs", x.bracketPairs(), 38);
        check.due("22: last", x.outputAt(115), '!' == x.symbol(x.operatorOf(node)) ? '!' : ')');
        check.due("24: inmost pair", x.readWithout(37), ExpressionPrinter.OTHER_TREE);
        check.due("24: no pair", x.readWithout(38), ExpressionPrinter.NO_SUCH_INDEX);
        check.due("26: copy", x.copyOutput(), 116);
        check.due("28: read back", x.areEqual(node, x.parse()), 1);
        check.due("20: length", x.print(node), 40 + 2 * 19);
    }

    private static void readWithout() {
        ExpressionPrinter x = Check.usual();
        int root = Check.parsed(x, "(a+b)*(c*d)");
        int nodes = x.nodeCount();
        x.printFull(root);
        check.due("24: first pair", x.readWithout(0), ExpressionPrinter.OTHER_TREE);
        check.due("24: second pair", x.readWithout(1), ExpressionPrinter.OTHER_TREE);
        check.due("24: third pair", x.readWithout(2), ExpressionPrinter.NO_SUCH_INDEX);
        for (int far : FAR) {
            check.due("24: pair " + far, x.readWithout(far), ExpressionPrinter.NO_SUCH_INDEX);
        }
        check.due("24: output stays", Check.output(x), "(a+b)*(c*d)");
        check.due("24: nodes stay", x.nodeCount(), nodes);
        check.due("24: input stays", x.clearInput(), 11);
        check.due("24: no error", x.errorKind(), ExpressionPrinter.NONE);
        x.printFull(Check.parsed(x, "a+(b*c)"));
        check.due("24: same", x.readWithout(0), ExpressionPrinter.SAME_TREE);
        x.printFull(Check.parsed(x, "(a<b)<c"));
        Check.parsed(x, "a)");
        check.due("24: unreadable", x.readWithout(0), ExpressionPrinter.UNREADABLE);
        check.due("24: error of parse stays", x.errorKind(), ExpressionPrinter.UNEXPECTED_CLOSE);
        check.due("24: its position too", x.errorPosition(), 1);
        x.print(x.leaf('a'));
        check.due("24: no pairs", x.readWithout(0), ExpressionPrinter.NO_SUCH_INDEX);
        nestedPairs();
    }

    private static void nestedPairs() {
        ExpressionPrinter x = Check.usual();
        x.printFull(Check.parsed(x, "((a+b)*c)+(d*e)"));
        check.due("24: text", Check.output(x), "((a+b)*c)+(d*e)");
        check.due("24: outer pair", x.readWithout(0), ExpressionPrinter.SAME_TREE);
        check.due("24: inner pair", x.readWithout(1), ExpressionPrinter.OTHER_TREE);
        check.due("24: last pair", x.readWithout(2), ExpressionPrinter.SAME_TREE);
    }

    private static void readWithoutUsesOperatorsOfNow() {
        ExpressionPrinter x = Check.usual();
        int root = Check.parsed(x, "(a+b)*c");
        x.print(root);
        check.due("24: before", x.readWithout(0), ExpressionPrinter.OTHER_TREE);
        x.setLevel(0, 6);
        check.due("24: level", x.readWithout(0), ExpressionPrinter.SAME_TREE);
        x.setForbidden(1, 0, true);
        check.due("24: forbidden", x.readWithout(0), ExpressionPrinter.UNREADABLE);
        x.setForbidden(1, 0, false);
        x.setLevel(0, 5);
        check.due("24: same level", x.readWithout(0), ExpressionPrinter.SAME_TREE);
        x.setAssociativity(5, ExpressionPrinter.NO_ASSOCIATIVITY);
        check.due("24: not associative", x.readWithout(0), ExpressionPrinter.UNREADABLE);
        x.setAssociativity(5, ExpressionPrinter.RIGHT);
        check.due("24: right", x.readWithout(0), ExpressionPrinter.OTHER_TREE);
        check.due("24: output stays", Check.output(x), "(a+b)*c");
    }
}

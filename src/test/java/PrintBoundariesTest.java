/** The boundary cases of promises 20 to 24; each test says which sentence it looks at. */
public final class PrintBoundariesTest {
    private static final int LEAST = Integer.MIN_VALUE, GREATEST = Integer.MAX_VALUE;
    private static final Check check = new Check();

    public static void main(String[] args) {
        missingRoots();
        firstAndLastRoots();
        leavesAndRoots();
        noNodeTwice();
        fewestComeFirst();
        tiesInPreorder();
        tiesWithPairsInside();
        tiesUnderTheHundredthNode();
        tiesFarBelowTheRoot();
        lowestLevelAtTheEnd();
        highestLevel();
        operatorsOfToday();
        forbiddenIsBracketed();
        largestTrees();
        shortAfterLong();
        everyNodeButTheRoot();
        positionsOfTheOutput();
        pairsOfTheOutput();
        nothingPrintedYet();
        numbersOfPairs();
        pairsByTheirOpeningBrackets();
        readWithoutChangesNothing();
        readWithoutOfToday();
        readWithoutOfThePrintedTree();
        check.end("PrintBoundariesTest");
    }

    private static String printedAs(ExpressionPrinter x, String text) {
        return Check.printed(x, Check.parsed(x, text));
    }

    // ---- 20 and 21: print and printFull

    /** "NO_SUCH_NODE if there is no such node": the output and the printed tree stay. */
    private static void missingRoots() {
        int[] none = {LEAST, -2, -1, 10, 11, 100, GREATEST};
        for (int node : none) {
            check.refused("20: print(" + node + ")", States::busy, x -> x.print(node), -1);
            check.refused("21: printFull(" + node + ")", States::busy, x -> x.printFull(node), -1);
        }
        int[] noneOfHundred = {LEAST, -1, 100, 101, 120, GREATEST};
        for (int node : noneOfHundred) {
            check.refused("20: print(" + node + ") of 100", States::hundredNodes, x -> x.print(node), -1);
            check.refused("21: printFull(" + node + ") of 100", States::hundredNodes, x -> x.printFull(node), -1);
        }
        check.refused("20: print(0) of none", Check::usual, x -> x.print(0), -1);
        check.refused("21: printFull(0) of none", Check::usual, x -> x.printFull(0), -1);
    }

    /** The same sentence: the first node and the last one. */
    private static void firstAndLastRoots() {
        ExpressionPrinter x = States.nodes(99);
        x.unary(States.MINUS, 98);
        check.due("20: print(0)", Check.printed(x, 0), "a");
        check.due("20: print(99)", Check.printed(x, 99), "-b");
        check.due("21: printFull(0)", Check.printedFull(x, 0), "a");
        check.due("21: printFull(99)", Check.printedFull(x, 99), "-b");
    }

    /** "for each occurrence of an operator node in it except the root"; "Leaves are never bracketed" */
    private static void leavesAndRoots() {
        String[] texts = {"a", "z", "-a", "a!", "a+b", "a<b"};
        for (String text : texts) {
            ExpressionPrinter x = Check.usual();
            for (int operator = 0; operator < 7; operator++) {
                for (int inner = 0; inner < 7; inner++) {
                    x.setForbidden(operator, inner, true);
                }
            }
            int root = Check.parsed(x, "((" + text + "))");
            check.due("20: " + text, Check.printed(x, root), text);
            check.due("23: " + text, x.bracketPairs(), 0);
            check.due("21: " + text, Check.printedFull(x, root), text);
            check.due("23: " + text, x.bracketPairs(), 0);
        }
    }

    /** "Leaves are never bracketed, and no node is bracketed twice." */
    private static void noNodeTwice() {
        ExpressionPrinter x = Check.usual();
        int root = Check.parsed(x, "(((a))+((b)))*((((c)+d)))");
        check.due("20: print", Check.printed(x, root), "(a+b)*(c+d)");
        check.due("21: printFull", Check.printedFull(x, root), "(a+b)*(c+d)");
        x.setForbidden(States.TIMES, States.PLUS, true);
        check.due("20: for two reasons", Check.printed(x, root), "(a+b)*(c+d)");
    }

    /** "The printer uses a valid bracketing with the fewest bracket pairs.": one outer pair for two inner ones. */
    private static void fewestComeFirst() {
        ExpressionPrinter x = Check.usual();
        x.definePostfix('?', 4);
        x.definePrefix('@', 5);
        int root = Check.parsed(x, "(@((a?)*(~b)))+c");
        check.due("20: one pair", Check.printed(x, root), "@(a?*~b)+c");
        check.due("24: it is needed", x.readWithout(0) == ExpressionPrinter.SAME_TREE ? 1 : 0, 0);
        check.due("20: no pair", printedAs(x, "@(a*b)"), "@a*b");
        check.due("20: one side", printedAs(x, "@((a?)*b)+c"), "@(a?)*b+c");
        check.due("20: other side", printedAs(x, "@(a*(~b))+c"), "@a*(~b)+c");
    }

    /** "at the first occurrence where they differ, it prefers the one that does not bracket it" */
    private static void tiesInPreorder() {
        ExpressionPrinter x = Check.usual();
        check.due("20: outer open, inner bracketed", printedAs(x, "(a*(~b))+c"), "a*(~b)+c");
        check.due("20: two of them, left and right", printedAs(x, "(a*(~b))+((c*(~d)))+e"), "a*(~b)+c*(~d)+e");
        x.setAssociativity(5, ExpressionPrinter.RIGHT);
        check.due("20: the inmost of three", printedAs(x, "(a*(b*(~c)))+d"), "a*b*(~c)+d");
        x.setForbidden(States.TIMES, States.TIMES, true);
        check.due("20: no tie any more", printedAs(x, "(a*(b*(~c)))+d"), "a*(b*~c)+d");
        x.setForbidden(States.TIMES, States.TILDE, true);
        check.due("20: no choice any more", printedAs(x, "(a*(b*(~c)))+d"), "a*(b*(~c))+d");
    }

    /** The operators of Check.usual, and two more that make an outer pair worth as much as an inner one. */
    private static ExpressionPrinter trading() {
        ExpressionPrinter x = Check.usual();
        x.definePostfix('?', 4);
        x.definePrefix('@', 5);
        return x;
    }

    /** The same sentence, where both ways have two pairs, one of them inside in either way. */
    private static void tiesWithPairsInside() {
        check.due("20: on the left", printedAs(trading(), "((p+q)*~b)+c"), "(p+q)*(~b)+c");
        check.due("20: on the right", printedAs(trading(), "@((a?)*(p+q))"), "@(a?)*(p+q)");
        check.due("20: of an infix", printedAs(trading(), "d*(@((a?)*(p+q)))"), "d*@(a?)*(p+q)");
        ExpressionPrinter x = trading();
        int shared = Check.parsed(x, "(p+q)*~b");
        int sum = x.binary(States.PLUS, shared, x.leaf('c'));
        check.due("20: by itself", Check.printed(x, shared), "(p+q)*~b");
        check.due("20: as an operand", Check.printed(x, sum), "(p+q)*(~b)+c");
        check.due("20: by itself again", Check.printed(x, shared), "(p+q)*~b");
    }

    /** The same, for a root that is the last node there can be, and for trees whose first node is node 0. */
    private static void tiesUnderTheHundredthNode() {
        String[] texts = {"((p+q)*~b)+c", "@((a?)*(p+q))", "c+(@((a?)*(p+q)))"};
        String[] wants = {"(p+q)*(~b)+c", "@(a?)*(p+q)", "c+@(a?)*(p+q)"};
        for (int i = 0; i < texts.length; i++) {
            ExpressionPrinter x = trading();
            int size = Check.parsed(x, texts[i]) + 1;
            for (int node = size; node < 100 - size; node++) {
                x.leaf('z');
            }
            check.due("28: the last node", x.parse(), 99);
            check.due("20: the last node", Check.printed(x, 99), wants[i]);
            check.due("20: the first nodes", Check.printed(x, size - 1), wants[i]);
        }
    }

    /** The same, in trees of size 40, far below the root and far above the last leaf. */
    private static void tiesFarBelowTheRoot() {
        ExpressionPrinter x = Check.usual();
        String prefixes = "~".repeat(20) + "-".repeat(14) + "a*(~b)+c";
        check.due("20: under prefixes", printedAs(x, prefixes), prefixes);
        check.due("18: their size", x.size(x.nodeCount() - 1), 40);
        ExpressionPrinter y = Check.usual();
        y.definePostfix('?', 1);
        String postfixes = "a" + "!".repeat(14) + "*(~b)+c" + "?".repeat(20);
        check.due("20: under postfixes", printedAs(y, postfixes), postfixes);
        check.due("18: their size", y.size(y.nodeCount() - 1), 40);
    }

    /** "The level is 1 to 9": what reads on as far as can be needs no pair at the end, nor before a closing bracket. */
    private static void lowestLevelAtTheEnd() {
        ExpressionPrinter x = Check.usual();
        x.definePrefix('@', 1);
        x.defineInfix('=', 1);
        x.definePostfix('?', 1);
        x.setAssociativity(1, ExpressionPrinter.RIGHT);
        String[] texts = {"a+(@b)", "(a+(@b))*c", "@(@a)", "-(@a)", "a=(b=c)", "(a=b)=c", "d*(a=(b=c))", "(@a)=b", "@(a=b)", "(a=b)?", "a=(b?)",
            "(@a)?", "-(a?)", "((@a)+b)*(@c)"};
        String[] wants = {"a+@b", "(a+@b)*c", "@@a", "-@a", "a=b=c", "(a=b)=c", "d*(a=b=c)", "(@a)=b", "@a=b", "(a=b)?", "a=b?",
            "(@a)?", "-(a?)", "((@a)+b)*@c"};
        for (int i = 0; i < texts.length; i++) {
            check.due("20: " + texts[i], printedAs(x, texts[i]), wants[i]);
        }
    }

    /** The same sentence at its other end: the right level of an operator of level 9 is 10. */
    private static void highestLevel() {
        ExpressionPrinter x = new ExpressionPrinter();
        x.defineInfix('+', 9);
        x.definePrefix('-', 9);
        x.definePostfix('!', 9);
        String[] texts = {"(a+b)+c", "a+(b+c)", "a+(b!)", "(a+b)!", "-(a+b)", "(-a)+b", "a+(-b)", "-(a!)", "(-a)!", "(a!)+b"};
        String[] left = {"a+b+c", "a+(b+c)", "a+(b!)", "a+b!", "-a+b", "(-a)+b", "a+-b", "-a!", "(-a)!", "a!+b"};
        String[] right = {"(a+b)+c", "a+b+c", "a+b!", "(a+b)!", "-a+b", "(-a)+b", "a+-b", "-a!", "(-a)!", "a!+b"};
        for (int i = 0; i < texts.length; i++) {
            x.setAssociativity(9, ExpressionPrinter.LEFT);
            int root = Check.parsed(x, texts[i]);
            check.due("20: left, " + texts[i], Check.printed(x, root), left[i]);
            x.setAssociativity(9, ExpressionPrinter.RIGHT);
            check.due("20: right, " + texts[i], Check.printed(x, root), right[i]);
        }
    }

    /** "Changes the level of an operator.": a tree that was printed before is printed by the operators of now. */
    private static void operatorsOfToday() {
        ExpressionPrinter x = trading();
        int root = Check.parsed(x, "((p+q)*~b)+c");
        check.due("20: at first", Check.printed(x, root), "(p+q)*(~b)+c");
        x.setLevel(States.TIMES, 4);
        check.due("20: as low", Check.printed(x, root), "p+q*(~b)+c");
        x.setLevel(States.TIMES, 1);
        check.due("20: lower", Check.printed(x, root), "(p+q*~b)+c");
        x.setLevel(States.TIMES, 5);
        x.setLevel(States.TILDE, 9);
        check.due("20: the prefix higher", Check.printed(x, root), "(p+q)*~b+c");
        x.setForbidden(States.PLUS, States.TIMES, true);
        check.due("20: forbidden", Check.printed(x, root), "((p+q)*~b)+c");
        x.setForbidden(States.TIMES, States.TILDE, true);
        check.due("20: both forbidden", Check.printed(x, root), "((p+q)*(~b))+c");
    }

    /** "a node with the inner operator must be bracketed wherever it is an operand of a node with the outer operator" */
    private static void forbiddenIsBracketed() {
        ExpressionPrinter x = Check.usual();
        String[] texts = {"a*b+c", "a+b*c", "a*b+c*d", "-a!", "--a"};
        String[] wants = {"(a*b)+c", "a+(b*c)", "(a*b)+(c*d)", "-(a!)", "--a"};
        for (int i = 0; i < texts.length; i++) {
            x.setForbidden(States.PLUS, States.TIMES, false);
            x.setForbidden(States.MINUS, States.FACTORIAL, false);
            int root = Check.parsed(x, texts[i]);
            check.due("20: permitted", Check.printed(x, root), texts[i]);
            x.setForbidden(States.PLUS, States.TIMES, true);
            x.setForbidden(States.MINUS, States.FACTORIAL, true);
            check.due("20: forbidden", Check.printed(x, root), wants[i]);
        }
    }

    /** "the size of a node is at most 40": the longest texts, without a pair, with as many as can be, and in between. */
    private static void largestTrees() {
        ExpressionPrinter x = Check.usual();
        int chain = Check.parsed(x, "-".repeat(39) + "a");
        check.due("20: 39 prefixes", Check.printed(x, chain), "-".repeat(39) + "a");
        check.due("21: 39 prefixes", Check.printedFull(x, chain), "-(".repeat(38) + "-a" + ")".repeat(38));
        check.due("23: pairs", x.bracketPairs(), 38);
        x.setForbidden(States.MINUS, States.MINUS, true);
        check.due("20: all forbidden", Check.printed(x, chain), "-(".repeat(38) + "-a" + ")".repeat(38));
        x.setForbidden(States.MINUS, States.MINUS, false);
        ExpressionPrinter y = Check.usual();
        int sum = Check.parsed(y, "a+".repeat(19) + "a");
        check.due("18: 39", y.size(sum), 39);
        int large = y.unary(States.FACTORIAL, sum);
        check.due("20: a sum of 20", Check.printed(y, sum), "a+".repeat(19) + "a");
        check.due("20: its factorial", Check.printed(y, large), "(" + "a+".repeat(19) + "a)!");
        check.due("21: its factorial", Check.printedFull(y, large), "(".repeat(19) + "a" + "+a)".repeat(19) + "!");
        y.setAssociativity(4, ExpressionPrinter.RIGHT);
        check.due("20: grouped the other way", Check.printed(y, large), "(".repeat(19) + "a" + "+a)".repeat(19) + "!");
    }

    /** "The output is replaced." */
    private static void shortAfterLong() {
        for (int way = 0; way < 4; way++) {
            ExpressionPrinter x = States.hundredNodes();
            check.due("20: length before", x.outputAt(115) >= 0 && x.outputAt(116) == -9 ? 1 : 0, 1);
            int length = way % 2 == 0 ? x.print(0) : x.printFull(0);
            check.due("20: short", length, 1);
            check.due("22: its character", x.outputAt(0), 'a');
            check.due("22: behind it", x.outputAt(1), -9);
            check.due("22: far behind it", x.outputAt(115), -9);
            check.due("23: its pairs", x.bracketPairs(), 0);
            check.due("24: its pairs", x.readWithout(0), -9);
            length = way / 2 == 0 ? x.print(39) : x.printFull(39);
            check.due("20: long", length, way / 2 == 0 ? 40 + 2 * 18 : 116);
            check.due("22: its last character", x.outputAt(length - 1), way / 2 == 0 ? '!' : ')');
            check.due("22: behind it", x.outputAt(length), -9);
            check.due("23: its pairs", x.bracketPairs(), way / 2 == 0 ? 18 : 38);
        }
    }

    /** "Prints a tree in which every operator node except the root is bracketed." */
    private static void everyNodeButTheRoot() {
        String[] texts = {"a", "-a", "--a", "a!!", "a+b", "a+b+c", "a+b*c", "-a+b!", "(a<b)<(c<d)", "~a*b"};
        String[] wants = {"a", "-a", "-(-a)", "(a!)!", "a+b", "(a+b)+c", "a+(b*c)", "(-a)+(b!)", "(a<b)<(c<d)", "~(a*b)"};
        for (int i = 0; i < texts.length; i++) {
            ExpressionPrinter x = Check.usual();
            check.due("21: " + texts[i], Check.meaning(x, texts[i]), wants[i]);
            check.due("23: " + texts[i], x.bracketPairs(), wants[i].chars().filter(c -> c == '(').count());
        }
    }

    // ---- 22 and 23: the output

    /** "NO_SUCH_INDEX if there is no such position" */
    private static void positionsOfTheOutput() {
        int[] none = {LEAST, -2, -1, 15, 16, 119, 120, 65536, GREATEST};
        for (int position : none) {
            check.refused("22: outputAt(" + position + ")", States::busy, x -> x.outputAt(position), -9);
            check.refused("22: outputAt(" + position + ") of none", ExpressionPrinter::new, x -> x.outputAt(position), -9);
        }
        String text = "((a+b)*c)<(d<e)";
        for (int position = 0; position < 15; position++) {
            check.due("22: outputAt(" + position + ")", States.busy().outputAt(position), text.charAt(position));
        }
        int[] ends = {LEAST, -1, 116, 117, 120, GREATEST};
        for (int position : ends) {
            check.due("22: outputAt(" + position + ") of 116", States.hundredNodes().outputAt(position), -9);
        }
        check.due("22: outputAt(115) of 116", States.hundredNodes().outputAt(115), ')');
        check.due("22: outputAt(1) of 1", States.printedLeaf().outputAt(1), -9);
        check.due("22: outputAt(0) of 1", States.printedLeaf().outputAt(0), 'z');
    }

    /** "Returns the number of bracket pairs in the output.": none, one, and the most. */
    private static void pairsOfTheOutput() {
        check.due("23: nothing printed", new ExpressionPrinter().bracketPairs(), 0);
        check.due("23: a leaf", States.printedLeaf().bracketPairs(), 0);
        check.due("23: three", States.busy().bracketPairs(), 3);
        check.due("23: the most", States.hundredNodes().bracketPairs(), 38);
        ExpressionPrinter x = Check.usual();
        Check.type(x, "((a))");
        check.due("23: the input does not count", x.bracketPairs(), 0);
        x.print(x.parse());
        check.due("23: nor does it later", x.bracketPairs(), 0);
        check.changesNothing("23: bracketPairs", States::busy, ExpressionPrinter::bracketPairs);
    }

    // ---- 24: readWithout

    /** "NO_TEXT if nothing was printed yet", which is listed before NO_SUCH_INDEX. */
    private static void nothingPrintedYet() {
        int[] pairs = {LEAST, -1, 0, 1, 38, GREATEST};
        for (int pair : pairs) {
            check.refused("24: new, pair " + pair, ExpressionPrinter::new, x -> x.readWithout(pair), -11);
            check.refused("24: parsed only, pair " + pair, States::fullInput, x -> x.readWithout(pair), -11);
            ExpressionPrinter x = Check.usual();
            Check.parsed(x, "(a+b)*c");
            x.print(5);
            x.printFull(-1);
            x.copyOutput();
            check.due("24: refused only, pair " + pair, x.readWithout(pair), -11);
            x.print(0);
            check.due("24: printed, pair " + pair, x.readWithout(pair), -9);
        }
    }

    /** "NO_SUCH_INDEX if there is no such pair" */
    private static void numbersOfPairs() {
        int[] none = {LEAST, LEAST + 1, -1, 3, 4, 38, 65536, GREATEST};
        for (int pair : none) {
            check.refused("24: readWithout(" + pair + ") of 3", States::busy, x -> x.readWithout(pair), -9);
            check.refused("24: readWithout(" + pair + ") of 0", States::printedLeaf, x -> x.readWithout(pair), -9);
        }
        check.refused("24: readWithout(0) of 0", States::printedLeaf, x -> x.readWithout(0), -9);
        check.refused("24: readWithout(38) of 38", States::hundredNodes, x -> x.readWithout(38), -9);
        check.due("24: readWithout(2) of 3", States.busy().readWithout(2), 2);
        check.due("24: readWithout(37) of 38", States.hundredNodes().readWithout(37), 0);
        check.due("24: readWithout(35) of 38", States.hundredNodes().readWithout(35), 1);
        check.due("24: readWithout(1) of 38", States.hundredNodes().readWithout(1), 1);
        check.due("24: readWithout(0) of 38", States.hundredNodes().readWithout(0), 0);
        ExpressionPrinter x = Check.usual();
        x.print(Check.parsed(x, "(a+b)*c"));
        check.due("24: readWithout(0) of 1", x.readWithout(0), 1);
        check.due("24: readWithout(1) of 1", x.readWithout(1), -9);
    }

    /** "the pairs are numbered from 0 by the positions of their opening brackets": not by their ends. */
    private static void pairsByTheirOpeningBrackets() {
        ExpressionPrinter x = States.busy();
        check.due("24: (a+b)*c<(d<e)", x.readWithout(0), ExpressionPrinter.SAME_TREE);
        check.due("24: (a+b*c)<(d<e)", x.readWithout(1), ExpressionPrinter.UNREADABLE);
        check.due("24: ((a+b)*c)<d<e", x.readWithout(2), ExpressionPrinter.UNREADABLE);
        x.setForbidden(States.PLUS, States.TIMES, false);
        check.due("24: (a+b*c)<(d<e)", x.readWithout(1), ExpressionPrinter.OTHER_TREE);
        ExpressionPrinter y = Check.usual();
        y.printFull(Check.parsed(y, "(a<((b*c)+(d+e)))*(f!)"));
        check.due("24: text", Check.output(y), "(a<((b*c)+(d+e)))*(f!)");
        int[] wants = {1, 0, 0, 1, 0, -9};
        for (int pair = 0; pair < 6; pair++) {
            check.due("24: pair " + pair, y.readWithout(pair), wants[pair]);
        }
    }

    /** "without changing anything": with each of the answers. */
    private static void readWithoutChangesNothing() {
        for (int pair = 0; pair < 3; pair++) {
            int p = pair;
            check.changesNothing("24: readWithout(" + p + ")", States::busy, x -> x.readWithout(p));
        }
        int[] pairs = {0, 18, 37};
        for (int pair : pairs) {
            check.changesNothing("24: readWithout(" + pair + ")", States::hundredNodes, x -> x.readWithout(pair));
        }
    }

    /** "The operators are used as they are now." */
    private static void readWithoutOfToday() {
        ExpressionPrinter x = Check.usual();
        x.printFull(Check.parsed(x, "(a*b)+c"));
        check.due("24: 5 over 4", x.readWithout(0), 0);
        check.due("24: 4 over 4", x.setLevel(States.TIMES, 4) >= 0 ? x.readWithout(0) : -1, 0);
        check.due("24: 3 over 4", x.setLevel(States.TIMES, 3) >= 0 ? x.readWithout(0) : -1, 1);
        x.setLevel(States.TIMES, 4);
        check.due("24: right", x.setAssociativity(4, 1) >= 0 ? x.readWithout(0) : -1, 1);
        check.due("24: none", x.setAssociativity(4, 2) >= 0 ? x.readWithout(0) : -1, 2);
        check.due("24: left", x.setAssociativity(4, 0) >= 0 ? x.readWithout(0) : -1, 0);
        check.due("24: forbidden", x.setForbidden(0, 1, true) >= 0 ? x.readWithout(0) : -1, 2);
        check.due("24: permitted", x.setForbidden(0, 1, false) >= 0 ? x.readWithout(0) : -1, 0);
        check.due("24: the output stays", Check.output(x), "(a*b)+c");
    }

    /** "compares the result with the tree that was printed": whatever is made, read or refused since. */
    private static void readWithoutOfThePrintedTree() {
        ExpressionPrinter x = Check.usual();
        int root = Check.parsed(x, "(a*b)+c");
        x.printFull(root);
        Check.parsed(x, "d+e");
        Check.parsed(x, "d+");
        x.binary(States.PLUS, root, root);
        x.clearInput();
        x.print(-1);
        x.printFull(x.nodeCount());
        check.due("24: still that tree", x.readWithout(0), ExpressionPrinter.SAME_TREE);
        check.due("29: the error stays", x.errorKind(), ExpressionPrinter.EXPECTED_OPERAND);
        check.due("30: the error stays", x.errorPosition(), 2);
        check.due("26: the output stays", x.copyOutput(), 7);
    }
}

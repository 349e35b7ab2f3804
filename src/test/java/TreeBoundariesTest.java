/** The boundary cases of promises 11 to 19; each test says which sentence it looks at. */
public final class TreeBoundariesTest {
    private static final int LEAST = Integer.MIN_VALUE, GREATEST = Integer.MAX_VALUE;
    private static final int PLUS = States.PLUS, MINUS = States.MINUS, FACTORIAL = States.FACTORIAL;
    private static final Check check = new Check();

    public static void main(String[] args) {
        lettersOfLeaves();
        hundredLeaves();
        hundredthNodeOfEachKind();
        noRoomForTheNextNode();
        largestUnaryNodes();
        largestBinaryNodes();
        wrongKinds();
        missingOperators();
        missingOperands();
        firstErrorOfUnary();
        firstErrorOfBinary();
        missingNodes();
        operatorsOfNodes();
        lettersOfNodes();
        indicesOfOperands();
        sharedOperands();
        equalTrees();
        differingOperators();
        deepestEquality();
        nodesNeverChange();
        check.end("TreeBoundariesTest");
    }

    // ---- 11: leaves

    /** "letter: a lowercase letter"; "BAD_SYMBOL if it is not a lowercase letter" */
    private static void lettersOfLeaves() {
        int[] bad = {LEAST, 97 - 65536, 97 - 256, -97, -1, 0, 32, 33, 40, 41, 64, 65, 90, 96, 123, 126, 127, 97 + 256, 97 + 65536, GREATEST};
        for (int code : bad) {
            check.refused("11: leaf(" + code + ")", States::busy, x -> x.leaf(code), -3);
        }
        ExpressionPrinter x = new ExpressionPrinter();
        for (int code = 97; code <= 122; code++) {
            check.due("11: leaf(" + code + ")", x.leaf(code), code - 97);
            check.due("16: letter", x.letterOf(code - 97), code);
            check.due("14: count", x.nodeCount(), code - 96);
        }
    }

    /** "There are up to 100 nodes"; "TOO_MANY if there are 100 nodes" */
    private static void hundredLeaves() {
        ExpressionPrinter x = new ExpressionPrinter();
        for (int node = 0; node < 100; node++) {
            check.due("11: leaf", x.leaf('a' + node % 26), node);
            check.due("14: count", x.nodeCount(), node + 1);
        }
        check.due("11: 101st", x.leaf('a'), -6);
        check.due("14: count", x.nodeCount(), 100);
        for (int node = 0; node < 100; node++) {
            check.due("16: letter", x.letterOf(node), 'a' + node % 26);
        }
        check.due("18: the last", x.size(99), 1);
        check.due("18: no node", x.size(100), -1);
    }

    private static int make(ExpressionPrinter x, int way) {
        switch (way) {
            case 0:
                return x.leaf('c');
            case 1:
                return x.unary(MINUS, 98);
            case 2:
                return x.unary(FACTORIAL, 0);
            default:
                return x.binary(PLUS, 98, 0);
        }
    }

    /** The same sentences for each way to make a node: the hundredth is made. */
    private static void hundredthNodeOfEachKind() {
        String[] texts = {"c", "-b", "a!", "b+a"};
        for (int way = 0; way < 4; way++) {
            ExpressionPrinter x = States.nodes(99);
            check.due("11 to 13: 100th", make(x, way), 99);
            check.due("14: count", x.nodeCount(), 100);
            check.due("20: text of the 100th", Check.printed(x, 99), texts[way]);
            check.due("18: size of the 100th", x.size(99), texts[way].length());
            for (int next = 0; next < 4; next++) {
                check.due("11 to 13: 101st", make(x, next), -6);
            }
            check.due("14: count", x.nodeCount(), 100);
        }
    }

    /** The same sentences: behind the refused one nothing has changed. */
    private static void noRoomForTheNextNode() {
        for (int way = 0; way < 4; way++) {
            int w = way;
            check.refused("11 to 13: 101st", States::hundredNodes, x -> make(x, w), -6);
        }
    }

    // ---- 12 and 13: sizes

    /** "the size of a node is at most 40"; "TOO_LARGE if the size would exceed 40" */
    private static void largestUnaryNodes() {
        int[] operators = {MINUS, FACTORIAL};
        for (int operator : operators) {
            ExpressionPrinter x = States.nodes(40);
            check.due("18: size of 38", x.size(38), 39);
            check.due("12: 1 + 39", x.unary(operator, 38), 40);
            check.due("18: size", x.size(40), 40);
            check.due("12: 1 + 40", x.unary(operator, 40), -7);
            check.due("14: count", x.nodeCount(), 41);
            check.refused("12: 1 + 40", () -> States.nodes(40), y -> y.unary(operator, 39), -7);
        }
    }

    /** The same for two operands: node n of the chain has the size n + 1. */
    private static void largestBinaryNodes() {
        int[][] good = {{0, 37}, {37, 0}, {18, 19}, {19, 18}, {1, 36}, {30, 7}};
        int[][] bad = {{0, 38}, {38, 0}, {19, 19}, {18, 20}, {1, 37}, {39, 0}, {0, 39}, {39, 39}};
        for (int[] pair : good) {
            ExpressionPrinter x = States.nodes(40);
            check.due("13: binary(0, " + pair[0] + ", " + pair[1] + ")", x.binary(PLUS, pair[0], pair[1]), 40);
            check.due("18: size", x.size(40), 40);
        }
        for (int[] pair : bad) {
            String call = "13: binary(0, " + pair[0] + ", " + pair[1] + ")";
            check.refused(call, () -> States.nodes(40), x -> x.binary(PLUS, pair[0], pair[1]), -7);
        }
        ExpressionPrinter x = States.nodes(40);
        check.due("13: twice the same, 39", x.binary(PLUS, 18, 18), 40);
        check.due("18: size", x.size(40), 39);
    }

    // ---- 12 and 13: wrong operators and operands

    /** "WRONG_KIND if it is INFIX"; "WRONG_KIND if it is not INFIX" */
    private static void wrongKinds() {
        for (int operator = 0; operator < 7; operator++) {
            int o = operator;
            boolean infix = Check.usual().kind(operator) == ExpressionPrinter.INFIX;
            if (infix) {
                check.refused("12: unary(" + o + ", 0)", States::busy, x -> x.unary(o, 0), -8);
                check.due("13: binary(" + o + ", 0, 1)", States.busy().binary(o, 0, 1), 10);
            } else {
                check.refused("13: binary(" + o + ", 0, 1)", States::busy, x -> x.binary(o, 0, 1), -8);
                check.due("12: unary(" + o + ", 0)", States.busy().unary(o, 0), 10);
            }
        }
    }

    /** "NO_SUCH_OPERATOR if there is no such operator" */
    private static void missingOperators() {
        int[] none = {LEAST, -2, -1, 7, 8, 16, GREATEST};
        for (int operator : none) {
            check.refused("12: unary(" + operator + ", 0)", States::busy, x -> x.unary(operator, 0), -2);
            check.refused("13: binary(" + operator + ", 0, 0)", States::busy, x -> x.binary(operator, 0, 0), -2);
        }
        check.refused("12: 16 of 16", States::sixteenOperators, x -> x.unary(16, 0), -2);
        check.refused("13: 16 of 16", States::sixteenOperators, x -> x.binary(16, 0, 0), -2);
        ExpressionPrinter x = States.sixteenOperators();
        int count = x.nodeCount();
        check.due("12: 15 of 16", x.unary(15, 0), count);
        check.due("15: operator", x.operatorOf(count), 15);
        check.due("13: 0 of 16", x.binary(0, 0, count), count + 1);
        check.due("15: operator", x.operatorOf(count + 1), 0);
    }

    /** "NO_SUCH_NODE if there is no such operand"; "NO_SUCH_NODE if one of the operands does not exist" */
    private static void missingOperands() {
        int[] none = {LEAST, -10, -2, -1, 10, 11, 99, 100, GREATEST};
        for (int node : none) {
            check.refused("12: unary(3, " + node + ")", States::busy, x -> x.unary(MINUS, node), -1);
            check.refused("12: unary(4, " + node + ")", States::busy, x -> x.unary(FACTORIAL, node), -1);
            check.refused("13: binary(0, " + node + ", 9)", States::busy, x -> x.binary(PLUS, node, 9), -1);
            check.refused("13: binary(0, 9, " + node + ")", States::busy, x -> x.binary(PLUS, 9, node), -1);
            check.refused("13: binary(0, both " + node + ")", States::busy, x -> x.binary(PLUS, node, node), -1);
        }
        check.due("12: the last node", States.busy().unary(MINUS, 9), 10);
        check.due("13: the first and the last node", States.busy().binary(PLUS, 0, 9), 10);
        check.due("13: the last and the first node", States.busy().binary(PLUS, 9, 0), 10);
    }

    /** "NO_SUCH_OPERATOR .. WRONG_KIND .. NO_SUCH_NODE .. TOO_LARGE .. TOO_MANY": the first that applies. */
    private static void firstErrorOfUnary() {
        Probe.State full = States::hundredNodes;
        check.refused("12: operator, node, room", full, x -> x.unary(7, 100), -2);
        check.refused("12: operator, size, room", full, x -> x.unary(7, 39), -2);
        check.refused("12: operator, room", full, x -> x.unary(-1, 0), -2);
        check.refused("12: kind, node, room", full, x -> x.unary(PLUS, 100), -8);
        check.refused("12: kind, size, room", full, x -> x.unary(PLUS, 39), -8);
        check.refused("12: kind, room", full, x -> x.unary(PLUS, 0), -8);
        check.refused("12: node, room", full, x -> x.unary(MINUS, 100), -1);
        check.refused("12: size, room", full, x -> x.unary(MINUS, 39), -7);
        check.refused("12: size, room", full, x -> x.unary(FACTORIAL, 79), -7);
        check.refused("12: room", full, x -> x.unary(FACTORIAL, 38), -6);
        check.refused("12: operator, node", States::busy, x -> x.unary(7, 10), -2);
        check.refused("12: kind, node", States::busy, x -> x.unary(PLUS, 10), -8);
        check.refused("12: kind, size", () -> States.nodes(40), x -> x.unary(PLUS, 39), -8);
    }

    private static void firstErrorOfBinary() {
        Probe.State full = States::hundredNodes;
        check.refused("13: operator, node, room", full, x -> x.binary(7, 100, -1), -2);
        check.refused("13: operator, size, room", full, x -> x.binary(7, 39, 39), -2);
        check.refused("13: operator, room", full, x -> x.binary(-1, 0, 0), -2);
        check.refused("13: kind, node, room", full, x -> x.binary(MINUS, 100, 0), -8);
        check.refused("13: kind, size, room", full, x -> x.binary(FACTORIAL, 39, 39), -8);
        check.refused("13: kind, room", full, x -> x.binary(MINUS, 0, 0), -8);
        check.refused("13: left, size, room", full, x -> x.binary(PLUS, 100, 39), -1);
        check.refused("13: right, size, room", full, x -> x.binary(PLUS, 39, 100), -1);
        check.refused("13: node, room", full, x -> x.binary(PLUS, 0, -1), -1);
        check.refused("13: size, room", full, x -> x.binary(PLUS, 0, 38), -7);
        check.refused("13: room", full, x -> x.binary(PLUS, 0, 37), -6);
        check.refused("13: operator, node", States::busy, x -> x.binary(7, 10, 10), -2);
        check.refused("13: kind, node", States::busy, x -> x.binary(MINUS, 10, 10), -8);
        check.refused("13: left, size", () -> States.nodes(40), x -> x.binary(PLUS, 40, 39), -1);
        check.refused("13: right, size", () -> States.nodes(40), x -> x.binary(PLUS, 39, 40), -1);
    }

    // ---- 14 to 18: lookups

    /** "NO_SUCH_NODE if there is no such node", of each method that is asked for a node. */
    private static void missingNodes() {
        int[] counts = {40, 41, 79, 99, 100};
        for (int count : counts) {
            ExpressionPrinter x = States.nodes(count);
            check.due("14: count", x.nodeCount(), count);
            int[] none = {LEAST, LEAST + 1, -100, -1, count, count + 1, 100, 120, 65536, GREATEST};
            for (int node : none) {
                check.due("15: operatorOf(" + node + ")", x.operatorOf(node), -1);
                check.due("16: letterOf(" + node + ")", x.letterOf(node), -1);
                check.due("17: operand(" + node + ", 0)", x.operand(node, 0), -1);
                check.due("17: operand(" + node + ", 1)", x.operand(node, 1), -1);
                check.due("17: operand(" + node + ", 2), both wrong", x.operand(node, 2), -1);
                check.due("17: operand(" + node + ", -1), both wrong", x.operand(node, -1), -1);
                check.due("18: size(" + node + ")", x.size(node), -1);
                check.due("19: areEqual(" + node + ", 0)", x.areEqual(node, 0), -1);
                check.due("19: areEqual(0, " + node + ")", x.areEqual(0, node), -1);
                check.due("19: areEqual(" + node + ", " + node + ")", x.areEqual(node, node), -1);
            }
            check.due("18: the last", x.size(count - 1), count == 40 ? 40 : 1);
            check.due("19: the last", x.areEqual(count - 1, count - 1), 1);
        }
    }

    /** "NONE if the node is a leaf" */
    private static void operatorsOfNodes() {
        ExpressionPrinter x = States.sixteenOperators();
        int a = x.leaf('a');
        check.due("15: leaf", x.operatorOf(a), -10);
        for (int operator = 0; operator < 16; operator++) {
            int node = x.kind(operator) == ExpressionPrinter.INFIX ? x.binary(operator, a, a) : x.unary(operator, a);
            check.due("15: operator " + operator, x.operatorOf(node), operator);
            check.due("16: operator " + operator, x.letterOf(node), -10);
        }
    }

    /** "NONE if the node is not a leaf" */
    private static void lettersOfNodes() {
        ExpressionPrinter x = Check.usual();
        x.leaf('a');
        x.leaf('z');
        x.unary(MINUS, 0);
        x.unary(FACTORIAL, 0);
        x.binary(PLUS, 0, 1);
        int[] letters = {'a', 'z', -10, -10, -10};
        int[] operators = {-10, -10, MINUS, FACTORIAL, PLUS};
        for (int node = 0; node < 5; node++) {
            check.due("16: letterOf(" + node + ")", x.letterOf(node), letters[node]);
            check.due("15: operatorOf(" + node + ")", x.operatorOf(node), operators[node]);
        }
    }

    /** "index: 0 for the only or left operand, 1 for the right operand"; "NONE if the node has no operand with that index" */
    private static void indicesOfOperands() {
        ExpressionPrinter x = Check.usual();
        int a = x.leaf('a');
        int b = x.leaf('b');
        int[][] rows = {{a, -10, -10}, {x.unary(MINUS, b), b, -10}, {x.unary(FACTORIAL, b), b, -10}, {x.binary(PLUS, b, a), b, a},
            {x.binary(PLUS, b, b), b, b}, {x.unary(MINUS, a), a, -10}, {x.unary(FACTORIAL, a), a, -10}};
        int[] none = {LEAST, -2, -1, 2, 3, 256, GREATEST};
        for (int[] row : rows) {
            check.due("17: operand(" + row[0] + ", 0)", x.operand(row[0], 0), row[1]);
            check.due("17: operand(" + row[0] + ", 1)", x.operand(row[0], 1), row[2]);
            for (int index : none) {
                check.due("17: operand(" + row[0] + ", " + index + ")", x.operand(row[0], index), -10);
            }
        }
    }

    /** "A node can be an operand of several nodes, or twice of the same node." */
    private static void sharedOperands() {
        ExpressionPrinter x = Check.usual();
        int node = x.leaf('a');
        for (int size = 3; size <= 31; size = 2 * size + 1) {
            node = x.binary(PLUS, node, node);
            check.due("18: doubled", x.size(node), size);
            check.due("17: both sides", x.operand(node, 0) == x.operand(node, 1) ? 1 : 0, 1);
        }
        check.due("13: 63", x.binary(PLUS, node, node), -7);
        check.due("14: count", x.nodeCount(), 5);
        check.due("20: the occurrences are written one by one", Check.printed(x, 2), "a+a+(a+a)");
        check.due("12: of several nodes", x.unary(MINUS, 1), 5);
        check.due("12: of several nodes", x.unary(FACTORIAL, 1), 6);
        check.due("20: of several nodes", Check.printed(x, x.binary(PLUS, 5, 6)), "-(a+a)+(a+a)!");
        check.due("20: as before", Check.printed(x, 1), "a+a");
        check.due("21: all occurrences", x.printFull(node), 31 + 2 * 14);
    }

    // ---- 19: equality

    /** "both are leaves with the same letter, or .. both have the same operator and their operands are equal trees, in order" */
    private static void equalTrees() {
        String[] texts = {"a", "z", "a+b", "b+a", "a+a", "-a", "a!", "-z", "(-a)!", "-(a!)", "(a+b)+a", "a+(b+a)", "a*b"};
        ExpressionPrinter x = Check.usual();
        int[] roots = new int[texts.length];
        for (int i = 0; i < texts.length; i++) {
            roots[i] = Check.parsed(x, texts[i]);
        }
        for (int i = 0; i < texts.length; i++) {
            int twin = Check.parsed(x, texts[i]);
            for (int j = 0; j < texts.length; j++) {
                check.due("19: " + texts[i] + ", " + texts[j], x.areEqual(twin, roots[j]), i == j ? 1 : 0);
            }
        }
    }

    /** "the same operator": operators of the same symbol are not the same. */
    private static void differingOperators() {
        ExpressionPrinter x = new ExpressionPrinter();
        int prefix = x.definePrefix('!', 5);
        int postfix = x.definePostfix('!', 5);
        int a = x.leaf('a');
        int before = x.unary(prefix, a);
        int after = x.unary(postfix, a);
        check.due("19: !a, a!", x.areEqual(before, after), 0);
        check.due("19: a!, !a", x.areEqual(after, before), 0);
        check.due("19: !a, !a", x.areEqual(before, x.unary(prefix, a)), 1);
        check.due("19: a!, a!", x.areEqual(after, x.unary(postfix, x.leaf('a'))), 1);
        check.due("19: leaf, operator", x.areEqual(a, before), 0);
        check.due("19: operator, leaf", x.areEqual(after, a), 0);
    }

    /** Trees of size 40 that differ at their only leaf, and those that don't. */
    private static void deepestEquality() {
        ExpressionPrinter x = Check.usual();
        int one = Check.parsed(x, "-".repeat(39) + "a");
        int other = Check.parsed(x, "-".repeat(39) + "b");
        check.due("19: size", x.size(one) + x.size(other), 80);
        check.due("19: the leaves differ", x.areEqual(one, other), 0);
        check.due("19: the leaves differ", x.areEqual(other, one), 0);
        ExpressionPrinter y = States.nodes(100);
        check.due("19: two chains of 40", y.areEqual(39, 79), 1);
        check.due("19: one inside the other", y.areEqual(39, 77), 0);
        check.due("19: nodes 98 and 99", y.areEqual(98, 99), 1);
        check.due("19: nodes 0 and 99", y.areEqual(0, 99), 0);
    }

    /** "Nodes are numbered from 0 in the order of their creation and never change." */
    private static void nodesNeverChange() {
        ExpressionPrinter x = Check.usual();
        int root = Check.parsed(x, "-a+b!");
        x.setLevel(PLUS, 9);
        x.setLevel(MINUS, 1);
        x.setAssociativity(9, ExpressionPrinter.NO_ASSOCIATIVITY);
        x.setForbidden(PLUS, MINUS, true);
        x.setForbidden(PLUS, FACTORIAL, true);
        x.unary(MINUS, root);
        x.print(root);
        x.clearInput();
        check.due("21: the same tree", Check.printedFull(x, root), "(-a)+(b!)");
        int[] operators = {-10, MINUS, -10, FACTORIAL, PLUS, MINUS};
        for (int node = 0; node < 6; node++) {
            check.due("15: operatorOf(" + node + ")", x.operatorOf(node), operators[node]);
        }
        check.due("18: size", x.size(root), 5);
    }
}

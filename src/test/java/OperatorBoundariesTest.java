/** The boundary cases of promises 1 to 10; each test says which sentence it looks at. */
public final class OperatorBoundariesTest {
    private static final int LEAST = Integer.MIN_VALUE, GREATEST = Integer.MAX_VALUE;
    private static final int[] BAD_LEVELS = {LEAST, -1, 0, 10, 11, 1 + 256, GREATEST};
    private static final String[] NAMES = {"defineInfix", "definePrefix", "definePostfix"};
    private static final Check check = new Check();

    public static void main(String[] args) {
        nothingThereAtFirst();
        nothingForbiddenAtFirst();
        leftAtFirst();
        codesOfSymbols();
        outermostSymbolsAreRead();
        levelsOfDefinitions();
        oneSymbolTwoOperators();
        sixteenOperators();
        sixteenOfEightSymbols();
        firstErrorOfDefinitions();
        indicesOfOperators();
        setLevelAtTheEdges();
        setAssociativityAtTheEdges();
        onlyInfixOfThatLevel();
        rightLevelAtTheEdges();
        equalAndLesserLevels();
        forbiddenWithItself();
        onePairIsForbidden();
        missingOperatorOfAPair();
        check.end("OperatorBoundariesTest");
    }

    private static int define(ExpressionPrinter x, int kind, int symbol, int level) {
        return kind == 0 ? x.defineInfix(symbol, level) : kind == 1 ? x.definePrefix(symbol, level) : x.definePostfix(symbol, level);
    }

    private static ExpressionPrinter with(int kind, int symbol, int level) {
        ExpressionPrinter x = new ExpressionPrinter();
        define(x, kind, symbol, level);
        return x;
    }

    // ---- 1: a new object

    /** "Creates a printer without operators and nodes. The input and the output are empty, and no parse error has occurred." */
    private static void nothingThereAtFirst() {
        ExpressionPrinter x = new ExpressionPrinter();
        check.due("1: operatorCount", x.operatorCount(), 0);
        check.due("1: symbol", x.symbol(0), -2);
        check.due("1: kind", x.kind(0), -2);
        check.due("1: setLevel", x.setLevel(0, 1), -2);
        check.due("1: setForbidden", x.setForbidden(0, 0, true), -2);
        check.due("1: unary", x.unary(0, 0), -2);
        check.due("1: binary", x.binary(0, 0, 0), -2);
        check.due("1: nodeCount", x.nodeCount(), 0);
        check.due("1: operatorOf", x.operatorOf(0), -1);
        check.due("1: letterOf", x.letterOf(0), -1);
        check.due("1: operand", x.operand(0, 0), -1);
        check.due("1: size", x.size(0), -1);
        check.due("1: areEqual", x.areEqual(0, 0), -1);
        check.due("1: print", x.print(0), -1);
        check.due("1: printFull", x.printFull(0), -1);
        check.due("1: outputAt", x.outputAt(0), -9);
        check.due("1: bracketPairs", x.bracketPairs(), 0);
        check.due("1: readWithout", x.readWithout(0), -11);
        check.due("1: copyOutput", x.copyOutput(), 0);
        check.due("1: clearInput", x.clearInput(), 0);
        check.due("1: errorKind", x.errorKind(), -10);
        check.due("1: errorPosition", x.errorPosition(), -10);
        check.due("1: the empty input", x.parse(), -12);
        check.due("1: the first character", x.append('a'), 1);
        check.due("1: the first operator", x.defineInfix('+', 1), 0);
        check.due("1: the first node", x.leaf('a'), 0);
    }

    /** "Initially no pair is forbidden." */
    private static void nothingForbiddenAtFirst() {
        ExpressionPrinter x = States.sixteenOperators();
        for (int outer = 0; outer < 16; outer++) {
            for (int inner = 0; inner < 16; inner++) {
                check.due("10: pair " + outer + ", " + inner + " at first", x.setForbidden(outer, inner, false), 0);
            }
        }
    }

    /** "Each level has an associativity: LEFT (initially)" */
    private static void leftAtFirst() {
        for (int level = 1; level <= 9; level++) {
            check.due("9: level " + level + " at first", new ExpressionPrinter().setAssociativity(level, 1), 0);
            check.due("9: a+b+c on level " + level, Check.meaning(with(0, '+', level), "a+b+c"), "(a+b)+c");
        }
    }

    // ---- 2 to 4: definitions

    /** "a code from 33 to 126 that is neither a lowercase letter (97 to 122) nor a bracket (40 or 41)" */
    private static void codesOfSymbols() {
        int[] good = {33, 39, 42, 48, 64, 65, 90, 96, 123, 126};
        int[] bad = {LEAST, 43 - 65536, 43 - 256, -43, -1, 0, 32, 40, 41, 97, 98, 122, 127, 128, 43 + 256, 43 + 65536, GREATEST};
        for (int kind = 0; kind < 3; kind++) {
            int k = kind;
            for (int code : good) {
                ExpressionPrinter x = new ExpressionPrinter();
                check.due(NAMES[k] + "(" + code + ", 5)", define(x, k, code, 5), 0);
                check.due("6: symbol " + code, x.symbol(0), code);
                check.due("7: kind of " + code, x.kind(0), k);
                check.due("5: count", x.operatorCount(), 1);
            }
            for (int code : bad) {
                check.refused(NAMES[k] + "(" + code + ", 5)", States::busy, x -> define(x, k, code, 5), -3);
            }
        }
    }

    /** The same sentence: the first and the last code are symbols for the parser and the printer too. */
    private static void outermostSymbolsAreRead() {
        char[] symbols = {33, 39, 42, 96, 123, 126};
        for (char symbol : symbols) {
            check.due("28: infix " + symbol, Check.meaning(with(0, symbol, 1), "a" + symbol + "b"), "a" + symbol + "b");
            check.due("28: prefix " + symbol, Check.meaning(with(1, symbol, 1), symbol + "a"), symbol + "a");
            check.due("28: postfix " + symbol, Check.meaning(with(2, symbol, 1), "a" + symbol), "a" + symbol);
        }
    }

    /** "level: 1 to 9"; "BAD_VALUE if the level is out of range" */
    private static void levelsOfDefinitions() {
        for (int kind = 0; kind < 3; kind++) {
            int k = kind;
            for (int level = 1; level <= 9; level++) {
                ExpressionPrinter x = new ExpressionPrinter();
                check.due(NAMES[k] + "('?', " + level + ")", define(x, k, '?', level), 0);
                check.due("8: level " + level, x.setLevel(0, 5), level);
            }
            for (int level : BAD_LEVELS) {
                check.refused(NAMES[k] + "('?', " + level + ")", States::busy, x -> define(x, k, '?', level), -4);
            }
        }
    }

    /** "A symbol can belong to at most one PREFIX operator and, in addition, to at most one operator that is INFIX or POSTFIX." */
    private static void oneSymbolTwoOperators() {
        for (int pair = 0; pair < 9; pair++) {
            int one = pair / 3;
            int two = pair % 3;
            String name = NAMES[two] + " after " + NAMES[one];
            if ((one == 1) == (two == 1)) {
                check.refused(name, () -> with(one, '#', 4), x -> define(x, two, '#', 7), -5);
            } else {
                ExpressionPrinter x = with(one, '#', 4);
                check.due(name, define(x, two, '#', 7), 1);
                check.due(name + ": symbol", x.symbol(1), '#');
                check.due(name + ": kinds", x.kind(0) * 10 + x.kind(1), one * 10 + two);
                check.due(name + ": level of the first", x.setLevel(0, 4), 4);
                check.due(name + ": level of the second", x.setLevel(1, 7), 7);
                for (int kind = 0; kind < 3; kind++) {
                    check.due(name + ", then " + NAMES[kind], define(x, kind, '#', 1), -5);
                }
                check.due(name + ": another symbol", define(x, two, '$', 1), 2);
            }
        }
    }

    /** "There are up to 16 operators, with indices from 0 in the order of their definition."; "TOO_MANY if there are 16 operators" */
    private static void sixteenOperators() {
        for (int kind = 0; kind < 3; kind++) {
            int k = kind;
            ExpressionPrinter x = new ExpressionPrinter();
            for (int i = 0; i < 16; i++) {
                check.due(NAMES[k] + " " + i, define(x, k, 'A' + i, 1), i);
                check.due("5: count", x.operatorCount(), i + 1);
            }
            for (int i = 0; i < 16; i++) {
                check.due("6: symbol(" + i + ")", x.symbol(i), 'A' + i);
                check.due("7: kind(" + i + ")", x.kind(i), k);
            }
            check.due(NAMES[k] + ": 17th", define(x, k, 'Z', 1), -6);
            check.due("5: count", x.operatorCount(), 16);
            check.refused(NAMES[k] + ": 17th", States::sixteenOperators, y -> define(y, k, 'Z', 1), -6);
        }
    }

    /** The same sentences, where the symbols are used twice. */
    private static void sixteenOfEightSymbols() {
        ExpressionPrinter x = States.sixteenOperators();
        check.due("5: count", x.operatorCount(), 16);
        int[] symbols = {'A', 'E', 'B', 'F', 'C', 'G', 'D', 'H', 'A', 'B', 'C', 'D', 'E', 'F', 'G', 'H'};
        for (int i = 0; i < 16; i++) {
            check.due("6: symbol(" + i + ")", x.symbol(i), symbols[i]);
            check.due("7: kind(" + i + ")", x.kind(i), i >= 8 ? 1 : i % 2 == 0 ? 0 : 2);
        }
        check.due("28: the last operators", Check.meaning(x, "HGaGH"), "H(G((aG)H))");
        check.refused("2: defined, and no room", States::sixteenOperators, y -> y.defineInfix('A', 1), -5);
    }

    /** "BAD_SYMBOL .. BAD_VALUE .. ALREADY_DEFINED .. TOO_MANY": the first that applies. */
    private static void firstErrorOfDefinitions() {
        int[] taken = {'A', 'H', 'E'};
        for (int kind = 0; kind < 3; kind++) {
            int k = kind;
            check.refused(NAMES[k] + ": symbol, level", States::busy, x -> define(x, k, 'a', 0), -3);
            check.refused(NAMES[k] + ": symbol, room", States::sixteenOperators, x -> define(x, k, 'z', 1), -3);
            check.refused(NAMES[k] + ": symbol, level, room", States::sixteenOperators, x -> define(x, k, ')', 10), -3);
            check.refused(NAMES[k] + ": level, defined", () -> with(k, '+', 3), x -> define(x, k, '+', 10), -4);
            check.refused(NAMES[k] + ": level, room", States::sixteenOperators, x -> define(x, k, 'Z', 0), -4);
            check.refused(NAMES[k] + ": level, defined, room", States::sixteenOperators, x -> define(x, k, taken[k], 10), -4);
            check.refused(NAMES[k] + ": defined, room", States::sixteenOperators, x -> define(x, k, taken[k], 9), -5);
        }
    }

    // ---- 5 to 8: lookups and levels

    /** "NO_SUCH_OPERATOR if there is no operator with that index" */
    private static void indicesOfOperators() {
        for (int count = 0; count <= 16; count++) {
            ExpressionPrinter x = new ExpressionPrinter();
            for (int i = 0; i < count; i++) {
                define(x, i % 3, 'A' + i, 1 + i % 9);
            }
            int[] none = {LEAST, LEAST + count, -16, -1, count, count + 1, 16, 17, 256, 65536, GREATEST};
            for (int operator : none) {
                check.due("6: symbol(" + operator + ") of " + count, x.symbol(operator), -2);
                check.due("7: kind(" + operator + ") of " + count, x.kind(operator), -2);
                check.due("8: setLevel(" + operator + ", 1) of " + count, x.setLevel(operator, 1), -2);
            }
            for (int operator = 0; operator < count; operator++) {
                check.due("6: symbol(" + operator + ") of " + count, x.symbol(operator), 'A' + operator);
                check.due("7: kind(" + operator + ") of " + count, x.kind(operator), operator % 3);
                check.due("8: level of " + operator + " of " + count, x.setLevel(operator, 1), 1 + operator % 9);
            }
        }
    }

    /** "Returns the previous level; NO_SUCH_OPERATOR ..; BAD_VALUE if the level is out of range." */
    private static void setLevelAtTheEdges() {
        for (int level : BAD_LEVELS) {
            check.refused("8: setLevel(0, " + level + ")", States::busy, x -> x.setLevel(0, level), -4);
            check.refused("8: setLevel(6, " + level + ")", States::busy, x -> x.setLevel(6, level), -4);
            check.refused("8: setLevel(7, " + level + "), both wrong", States::busy, x -> x.setLevel(7, level), -2);
            check.refused("8: setLevel(-1, " + level + "), both wrong", States::busy, x -> x.setLevel(-1, level), -2);
        }
        check.refused("8: setLevel(16, 1)", States::sixteenOperators, x -> x.setLevel(16, 1), -2);
        ExpressionPrinter x = States.sixteenOperators();
        check.due("8: the last operator", x.setLevel(15, 9), 2);
        check.due("8: to 1", x.setLevel(15, 1), 9);
        check.due("8: the same", x.setLevel(15, 1), 1);
        check.due("8: the one before it", x.setLevel(14, 1), 3);
        check.due("8: the first", x.setLevel(0, 1), 1);
    }

    // ---- 9: associativities

    /** "level: 1 to 9"; "associativity: LEFT, RIGHT or NO_ASSOCIATIVITY"; "BAD_VALUE if a parameter is out of range" */
    private static void setAssociativityAtTheEdges() {
        int[] badValues = {LEAST, -1, 3, 256, GREATEST};
        for (int level : BAD_LEVELS) {
            for (int value = 0; value < 3; value++) {
                int v = value;
                check.refused("9: setAssociativity(" + level + ", " + v + ")", States::busy, x -> x.setAssociativity(level, v), -4);
            }
            check.refused("9: setAssociativity(" + level + ", 3)", States::busy, x -> x.setAssociativity(level, 3), -4);
        }
        for (int value : badValues) {
            check.refused("9: setAssociativity(1, " + value + ")", States::busy, x -> x.setAssociativity(1, value), -4);
            check.refused("9: setAssociativity(7, " + value + ")", States::busy, x -> x.setAssociativity(7, value), -4);
            check.refused("9: setAssociativity(9, " + value + ")", States::busy, x -> x.setAssociativity(9, value), -4);
        }
        ExpressionPrinter x = new ExpressionPrinter();
        for (int level = 1; level <= 9; level++) {
            check.due("9: level " + level, x.setAssociativity(level, level % 3), 0);
        }
        for (int level = 1; level <= 9; level++) {
            check.due("9: level " + level + " by itself", x.setAssociativity(level, level % 3), level % 3);
        }
    }

    /** "It matters for the INFIX operators of that level only." */
    private static void onlyInfixOfThatLevel() {
        for (int value = 0; value < 3; value++) {
            ExpressionPrinter x = new ExpressionPrinter();
            x.defineInfix('+', 4);
            x.defineInfix('*', 6);
            x.definePrefix('-', 5);
            x.definePostfix('!', 5);
            x.setAssociativity(5, value);
            check.due("9: prefix", Check.meaning(x, "--a"), "-(-a)");
            check.due("9: postfix", Check.meaning(x, "a!!"), "(a!)!");
            check.due("9: both", Check.meaning(x, "-a!"), "-(a!)");
            check.due("9: the level below", Check.meaning(x, "a+b+c"), "(a+b)+c");
            check.due("9: the level above", Check.meaning(x, "a*b*c"), "(a*b)*c");
            check.due("9: print", Check.printed(x, Check.parsed(x, "a*(b*c)+(d+e)")), "a*(b*c)+(d+e)");
        }
        ExpressionPrinter y = Check.usual();
        y.defineInfix('>', 2);
        check.due("9: two operators of one level", Check.fault(y, "a<b>c"), "5@3");
        y.setLevel(7, 3);
        check.due("9: no longer of that level", Check.meaning(y, "a<b>c"), "a<(b>c)");
        check.due("9: no longer of that level", Check.meaning(y, "a>b<c"), "(a>b)<c");
    }

    /** "The right level .. is its level if the associativity of its level is RIGHT, otherwise its level plus 1." */
    private static void rightLevelAtTheEdges() {
        int[] levels = {1, 9};
        for (int level : levels) {
            ExpressionPrinter x = with(0, '+', level);
            x.definePostfix('!', level);
            check.due("9: left, " + level, Check.meaning(x, "a+b+c!"), "((a+b)+c)!");
            x.setAssociativity(level, ExpressionPrinter.RIGHT);
            check.due("9: right, " + level, Check.meaning(x, "a+b+c!"), "a+(b+(c!))");
            x.setAssociativity(level, ExpressionPrinter.NO_ASSOCIATIVITY);
            check.due("9: none, " + level, Check.meaning(x, "a+b!"), "(a+b)!");
            check.due("9: none, " + level, Check.fault(x, "a+b+c"), "5@3");
            check.due("9: none, " + level, Check.meaning(x, "a+b!+c"), "((a+b)!)+c");
        }
    }

    /** "If the level of that operator is less than min, the left side is returned.": a level below, and the same level. */
    private static void equalAndLesserLevels() {
        for (int level = 2; level <= 9; level++) {
            ExpressionPrinter x = with(1, '-', level);
            x.defineInfix('+', level);
            x.defineInfix('*', level - 1);
            x.definePostfix('!', level);
            x.definePostfix('?', level - 1);
            String at = "28: prefix of level " + level;
            check.due(at + ", infix as high", Check.meaning(x, "-a+b"), "-(a+b)");
            check.due(at + ", infix below", Check.meaning(x, "-a*b"), "(-a)*b");
            check.due(at + ", postfix as high", Check.meaning(x, "-a!"), "-(a!)");
            check.due(at + ", postfix below", Check.meaning(x, "-a?"), "(-a)?");
            check.due(at + ", right side as high", Check.meaning(x, "a+b+c"), "(a+b)+c");
            check.due(at + ", right side above", Check.meaning(x, "a*b+c"), "a*(b+c)");
            check.due(at + ", right side below", Check.meaning(x, "a+b*c"), "(a+b)*c");
        }
    }

    // ---- 10: forbidden pairs

    /** "inner: index of the inner operator; it may be the same" */
    private static void forbiddenWithItself() {
        int[] same = {States.PLUS, States.MINUS, States.FACTORIAL};
        String[] open = {"a+b+c", "--a", "a!!"};
        String[] places = {"6@3", "6@0", "6@2"};
        String[] bracketed = {"(a+b)+c", "-(-a)", "(a!)!"};
        for (int i = 0; i < 3; i++) {
            ExpressionPrinter x = Check.usual();
            int root = Check.parsed(x, open[i]);
            check.due("10: before", Check.printed(x, root), open[i]);
            check.due("10: forbid", x.setForbidden(same[i], same[i], true), 0);
            check.due("10: print", Check.printed(x, root), bracketed[i]);
            check.due("10: parse", Check.fault(x, open[i]), places[i]);
            check.due("10: parse", Check.meaning(x, bracketed[i]), bracketed[i]);
            check.due("10: permit", x.setForbidden(same[i], same[i], false), 1);
            check.due("10: after", Check.printed(x, root), open[i]);
            check.due("10: permit again", x.setForbidden(same[i], same[i], false), 0);
        }
    }

    /** "Forbids a pair of operators": that pair, in that order, and no other. */
    private static void onePairIsForbidden() {
        int[][] pairs = {{0, 0}, {0, 1}, {1, 0}, {0, 15}, {15, 0}, {15, 15}, {7, 8}, {14, 15}};
        for (int[] pair : pairs) {
            ExpressionPrinter x = States.sixteenOperators();
            check.due("10: forbid", x.setForbidden(pair[0], pair[1], true), 0);
            check.due("10: forbid again", x.setForbidden(pair[0], pair[1], true), 1);
            for (int outer = 0; outer < 16; outer++) {
                for (int inner = 0; inner < 16; inner++) {
                    int want = outer == pair[0] && inner == pair[1] ? 1 : 0;
                    check.due("10: pair " + outer + ", " + inner, x.setForbidden(outer, inner, false), want);
                }
            }
        }
    }

    /** "NO_SUCH_OPERATOR if one of the operators does not exist" */
    private static void missingOperatorOfAPair() {
        int[] none = {LEAST, -16, -1, 7, 8, 16, 112, 256, GREATEST};
        for (int missing : none) {
            for (int there = 0; there < 7; there += 6) {
                int other = there;
                String pair = missing + ", " + other;
                check.refused("10: outer of " + pair, States::busy, x -> x.setForbidden(missing, other, true), -2);
                check.refused("10: inner of " + pair, States::busy, x -> x.setForbidden(other, missing, true), -2);
                check.refused("10: inner of " + pair, States::busy, x -> x.setForbidden(other, missing, false), -2);
            }
            check.refused("10: both " + missing, States::busy, x -> x.setForbidden(missing, missing, true), -2);
        }
        check.refused("10: 16 of 16", States::sixteenOperators, x -> x.setForbidden(16, 15, true), -2);
        check.refused("10: 16 of 16", States::sixteenOperators, x -> x.setForbidden(15, 16, true), -2);
    }
}

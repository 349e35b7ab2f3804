/** Promises 1 to 10: a new object, and the operators. */
public final class OperatorsTest {
    private static final Check check = new Check();

    public static void main(String[] args) {
        newObject();
        symbols();
        levels();
        definedTwice();
        tooMany();
        orderOfErrors();
        lookups();
        setLevel();
        setAssociativity();
        setForbidden();
        errorsChangeNothing();
        check.end("OperatorsTest");
    }

    private static void newObject() {
        ExpressionPrinter x = new ExpressionPrinter();
        check.due("1: operatorCount", x.operatorCount(), 0);
        check.due("1: nodeCount", x.nodeCount(), 0);
        check.due("1: outputAt(0)", x.outputAt(0), ExpressionPrinter.NO_SUCH_INDEX);
        check.due("1: bracketPairs", x.bracketPairs(), 0);
        check.due("1: readWithout(0)", x.readWithout(0), ExpressionPrinter.NO_TEXT);
        check.due("1: readWithout(-1)", x.readWithout(-1), ExpressionPrinter.NO_TEXT);
        check.due("1: errorKind", x.errorKind(), ExpressionPrinter.NONE);
        check.due("1: errorPosition", x.errorPosition(), ExpressionPrinter.NONE);
        check.due("1: copyOutput", x.copyOutput(), 0);
        check.due("1: clearInput", x.clearInput(), 0);
        for (int level = 1; level <= 9; level++) {
            check.due("1: associativity of " + level, x.setAssociativity(level, 0), ExpressionPrinter.LEFT);
        }
    }

    private static boolean canBeSymbol(int c) {
        return c >= 33 && c <= 126 && !(c >= 'a' && c <= 'z') && c != '(' && c != ')';
    }

    private static void symbols() {
        for (int c = -2; c < 300; c++) {
            int want = canBeSymbol(c) ? 0 : ExpressionPrinter.BAD_SYMBOL;
            check.due("2: defineInfix(" + c + ")", new ExpressionPrinter().defineInfix(c, 1), want);
            check.due("3: definePrefix(" + c + ")", new ExpressionPrinter().definePrefix(c, 1), want);
            check.due("4: definePostfix(" + c + ")", new ExpressionPrinter().definePostfix(c, 1), want);
        }
        int[] far = {Integer.MIN_VALUE, Integer.MAX_VALUE, 65536 + '+'};
        for (int c : far) {
            check.due("2: defineInfix(" + c + ")", new ExpressionPrinter().defineInfix(c, 1), ExpressionPrinter.BAD_SYMBOL);
        }
    }

    private static void levels() {
        int[] levels = {Integer.MIN_VALUE, -1, 0, 1, 9, 10, Integer.MAX_VALUE};
        for (int level : levels) {
            int want = level >= 1 && level <= 9 ? 0 : ExpressionPrinter.BAD_VALUE;
            check.due("2: level " + level, new ExpressionPrinter().defineInfix('+', level), want);
            check.due("3: level " + level, new ExpressionPrinter().definePrefix('+', level), want);
            check.due("4: level " + level, new ExpressionPrinter().definePostfix('+', level), want);
        }
    }

    private static void definedTwice() {
        ExpressionPrinter x = new ExpressionPrinter();
        check.due("2: +", x.defineInfix('+', 4), 0);
        check.due("2: + again", x.defineInfix('+', 5), ExpressionPrinter.ALREADY_DEFINED);
        check.due("4: + after infix", x.definePostfix('+', 5), ExpressionPrinter.ALREADY_DEFINED);
        check.due("3: + besides infix", x.definePrefix('+', 5), 1);
        check.due("3: + prefix again", x.definePrefix('+', 5), ExpressionPrinter.ALREADY_DEFINED);
        check.due("4: !", x.definePostfix('!', 5), 2);
        check.due("2: ! after postfix", x.defineInfix('!', 5), ExpressionPrinter.ALREADY_DEFINED);
        check.due("4: ! again", x.definePostfix('!', 5), ExpressionPrinter.ALREADY_DEFINED);
        check.due("3: ! besides postfix", x.definePrefix('!', 5), 3);
        check.due("3: - first as prefix", x.definePrefix('-', 5), 4);
        check.due("2: - besides prefix", x.defineInfix('-', 5), 5);
        check.due("5: operatorCount", x.operatorCount(), 6);
    }

    private static ExpressionPrinter withSixteen() {
        ExpressionPrinter x = new ExpressionPrinter();
        for (int i = 0; i < 16; i++) {
            int got = i % 3 == 0 ? x.defineInfix('A' + i, 1 + i % 9)
                    : i % 3 == 1 ? x.definePrefix('A' + i, 1 + i % 9) : x.definePostfix('A' + i, 1 + i % 9);
            check.due("2: operator " + i, got, i);
            check.due("5: operatorCount", x.operatorCount(), i + 1);
        }
        return x;
    }

    private static void tooMany() {
        ExpressionPrinter x = withSixteen();
        check.due("2: 17th", x.defineInfix('Z', 1), ExpressionPrinter.TOO_MANY);
        check.due("3: 17th", x.definePrefix('Z', 1), ExpressionPrinter.TOO_MANY);
        check.due("4: 17th", x.definePostfix('Z', 1), ExpressionPrinter.TOO_MANY);
        check.due("5: still 16", x.operatorCount(), 16);
        check.due("6: symbol(16)", x.symbol(16), ExpressionPrinter.NO_SUCH_OPERATOR);
        check.due("6: symbol(15)", x.symbol(15), 'A' + 15);
    }

    private static void orderOfErrors() {
        ExpressionPrinter x = withSixteen();
        check.due("2: symbol before level", x.defineInfix('a', 0), ExpressionPrinter.BAD_SYMBOL);
        check.due("2: level before defined", x.defineInfix('A', 0), ExpressionPrinter.BAD_VALUE);
        check.due("2: defined before too many", x.defineInfix('A', 1), ExpressionPrinter.ALREADY_DEFINED);
        check.due("3: symbol before level", x.definePrefix('(', 10), ExpressionPrinter.BAD_SYMBOL);
        check.due("3: level before defined", x.definePrefix('B', 10), ExpressionPrinter.BAD_VALUE);
        check.due("3: defined before too many", x.definePrefix('B', 1), ExpressionPrinter.ALREADY_DEFINED);
        check.due("3: too many", x.definePrefix('A', 1), ExpressionPrinter.TOO_MANY);
        check.due("4: symbol before level", x.definePostfix(')', 10), ExpressionPrinter.BAD_SYMBOL);
        check.due("4: level before defined", x.definePostfix('C', 10), ExpressionPrinter.BAD_VALUE);
        check.due("4: defined before too many", x.definePostfix('C', 1), ExpressionPrinter.ALREADY_DEFINED);
        check.due("8: operator before level", x.setLevel(16, 0), ExpressionPrinter.NO_SUCH_OPERATOR);
    }

    private static void lookups() {
        ExpressionPrinter x = Check.usual();
        String symbols = "+*^-!~<";
        int[] kinds = {0, 0, 0, 1, 2, 1, 0};
        for (int i = 0; i < 7; i++) {
            check.due("6: symbol(" + i + ")", x.symbol(i), symbols.charAt(i));
            check.due("7: kind(" + i + ")", x.kind(i), kinds[i]);
        }
        int[] none = {-1, 7, 16, Integer.MIN_VALUE, Integer.MAX_VALUE};
        for (int i : none) {
            check.due("6: symbol(" + i + ")", x.symbol(i), ExpressionPrinter.NO_SUCH_OPERATOR);
            check.due("7: kind(" + i + ")", x.kind(i), ExpressionPrinter.NO_SUCH_OPERATOR);
            check.due("8: setLevel(" + i + ")", x.setLevel(i, 3), ExpressionPrinter.NO_SUCH_OPERATOR);
            check.due("10: outer " + i, x.setForbidden(i, 0, true), ExpressionPrinter.NO_SUCH_OPERATOR);
            check.due("10: inner " + i, x.setForbidden(0, i, true), ExpressionPrinter.NO_SUCH_OPERATOR);
        }
    }

    private static void setLevel() {
        ExpressionPrinter x = Check.usual();
        check.due("8: low", x.setLevel(0, 0), ExpressionPrinter.BAD_VALUE);
        check.due("8: high", x.setLevel(0, 10), ExpressionPrinter.BAD_VALUE);
        int tree = Check.parsed(x, "(a+b)*c");
        check.due("8: before", Check.printed(x, tree), "(a+b)*c");
        check.due("8: previous", x.setLevel(0, 9), 4);
        check.due("8: previous", x.setLevel(0, 6), 9);
        check.due("8: after", Check.printed(x, tree), "a+b*c");
        check.due("8: the parser too", Check.meaning(x, "a+b*c"), "(a+b)*c");
        check.due("8: to 1", x.setLevel(0, 1), 6);
        check.due("8: same", x.setLevel(0, 1), 1);
    }

    private static void setAssociativity() {
        ExpressionPrinter x = Check.usual();
        int[] badLevels = {0, 10, -1, Integer.MAX_VALUE, Integer.MIN_VALUE};
        for (int level : badLevels) {
            check.due("9: level " + level, x.setAssociativity(level, 0), ExpressionPrinter.BAD_VALUE);
        }
        int[] badValues = {-1, 3, Integer.MAX_VALUE, Integer.MIN_VALUE};
        for (int value : badValues) {
            check.due("9: associativity " + value, x.setAssociativity(9, value), ExpressionPrinter.BAD_VALUE);
        }
        check.due("9: 9 was left", x.setAssociativity(9, 2), ExpressionPrinter.LEFT);
        check.due("9: 9 was none", x.setAssociativity(9, 1), ExpressionPrinter.NO_ASSOCIATIVITY);
        check.due("9: 9 was right", x.setAssociativity(9, 1), ExpressionPrinter.RIGHT);
        int left = Check.parsed(x, "(a+b)+c");
        int right = Check.parsed(x, "a+(b+c)");
        check.due("9: left", Check.printed(x, left), "a+b+c");
        check.due("9: left", Check.printed(x, right), "a+(b+c)");
        check.due("9: level 4", x.setAssociativity(4, 1), ExpressionPrinter.LEFT);
        check.due("9: right", Check.printed(x, left), "(a+b)+c");
        check.due("9: right", Check.printed(x, right), "a+b+c");
        check.due("9: right read", Check.meaning(x, "a+b+c"), "a+(b+c)");
        check.due("9: level 4", x.setAssociativity(4, 2), ExpressionPrinter.RIGHT);
        check.due("9: none", Check.printed(x, left), "(a+b)+c");
        check.due("9: none", Check.printed(x, right), "a+(b+c)");
        check.due("9: none read", Check.fault(x, "a+b+c"), "5@3");
    }

    private static void setForbidden() {
        ExpressionPrinter x = Check.usual();
        int tree = Check.parsed(x, "a+b*c");
        check.due("10: first", x.setForbidden(0, 1, true), 0);
        check.due("10: again", x.setForbidden(0, 1, true), 1);
        check.due("10: the other way round", x.setForbidden(1, 0, false), 0);
        check.due("10: forbidden", Check.printed(x, tree), "a+(b*c)");
        check.due("10: permit", x.setForbidden(0, 1, false), 1);
        check.due("10: permitted", Check.printed(x, tree), "a+b*c");
        check.due("10: permit again", x.setForbidden(0, 1, false), 0);
        check.due("10: same operator", x.setForbidden(0, 0, true), 0);
        check.due("10: same operator", x.setForbidden(0, 0, false), 1);
        ExpressionPrinter y = withSixteen();
        check.due("10: corner", y.setForbidden(15, 15, true), 0);
        check.due("10: corner", y.setForbidden(15, 15, true), 1);
        check.due("10: other corner", y.setForbidden(15, 0, true), 0);
        check.due("10: other corner", y.setForbidden(0, 15, true), 0);
        check.due("10: not mixed up", y.setForbidden(1, 0, true), 0);
    }

    private static void errorsChangeNothing() {
        ExpressionPrinter x = Check.usual();
        x.setForbidden(0, 1, true);
        x.defineInfix('+', 9);
        x.definePrefix('-', 9);
        x.defineInfix('a', 9);
        x.defineInfix('?', 10);
        x.setLevel(0, 10);
        x.setAssociativity(7, 3);
        x.setForbidden(0, 7, true);
        check.due("5: count", x.operatorCount(), 7);
        check.due("8: level of +", x.setLevel(0, 4), 4);
        check.due("8: level of -", x.setLevel(3, 6), 6);
        check.due("9: level 7", x.setAssociativity(7, 1), 1);
        check.due("10: pair", x.setForbidden(0, 1, true), 1);
    }
}

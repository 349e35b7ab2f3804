/** Promises 25 to 30: the input, parsing and its errors. */
public final class ParsingTest {
    private static final Check check = new Check();

    public static void main(String[] args) {
        appendedCharacters();
        longestInput();
        copiesAndClears();
        orderOfNodes();
        meanings();
        errors();
        orderOfErrorsInTheText();
        forbiddenPairs();
        storedErrors();
        tooLargeAndTooMany();
        deepTexts();
        check.end("ParsingTest");
    }

    private static void appendedCharacters() {
        for (int c = -2; c < 300; c++) {
            ExpressionPrinter x = new ExpressionPrinter();
            boolean fits = c >= 33 && c <= 126;
            check.due("25: append(" + c + ")", x.append(c), fits ? 1 : ExpressionPrinter.BAD_SYMBOL);
            check.due("27: length", x.clearInput(), fits ? 1 : 0);
        }
        int[] far = {Integer.MIN_VALUE, Integer.MAX_VALUE, 65536 + 'a'};
        for (int c : far) {
            check.due("25: append(" + c + ")", new ExpressionPrinter().append(c), ExpressionPrinter.BAD_SYMBOL);
        }
    }

    private static void longestInput() {
        ExpressionPrinter x = new ExpressionPrinter();
        for (int length = 1; length <= 120; length++) {
            check.due("25: append", x.append('('), length);
        }
        check.due("25: 121st", x.append('('), ExpressionPrinter.TOO_LARGE);
        check.due("25: symbol first", x.append(32), ExpressionPrinter.BAD_SYMBOL);
        check.due("28: 120 brackets", x.parse(), ExpressionPrinter.PARSE_ERROR);
        check.due("29: kind", x.errorKind(), ExpressionPrinter.EXPECTED_OPERAND);
        check.due("30: position", x.errorPosition(), 120);
        check.due("27: removed", x.clearInput(), 120);
        check.due("25: from the start", x.append('a'), 1);
    }

    private static void copiesAndClears() {
        ExpressionPrinter x = Check.usual();
        int root = Check.parsed(x, "a+b");
        check.due("28: the input stays", x.clearInput(), 3);
        check.due("27: empty", x.clearInput(), 0);
        Check.type(x, "abcdefgh");
        check.due("26: nothing printed", x.copyOutput(), 0);
        check.due("26: input is empty", x.clearInput(), 0);
        Check.type(x, "abcdefgh");
        x.print(root);
        check.due("26: replaced", x.copyOutput(), 3);
        check.due("25: goes on", x.append('*'), 4);
        check.due("25: goes on", x.append('c'), 5);
        check.due("26: output stays", Check.output(x), "a+b");
        check.due("28: a+b*c", Check.printedFull(x, x.parse()), "a+(b*c)");
        check.due("27: output stays", x.clearInput(), 5);
        check.due("27: output stays", Check.output(x), "a+(b*c)");
    }

    private static void orderOfNodes() {
        ExpressionPrinter x = Check.usual();
        x.leaf('z');
        check.due("28: root", Check.parsed(x, "-a!*(b+c)"), 7);
        int[] operators = {-10, -10, 4, 3, -10, -10, 0, 1};
        int[] letters = {'z', 'a', -10, -10, 'b', 'c', -10, -10};
        int[] firsts = {-10, -10, 1, 2, -10, -10, 4, 3};
        int[] seconds = {-10, -10, -10, -10, -10, -10, 5, 6};
        int[] sizes = {1, 1, 2, 3, 1, 1, 3, 7};
        check.due("14: nodeCount", x.nodeCount(), 8);
        for (int node = 0; node < 8; node++) {
            check.due("28: operator of " + node, x.operatorOf(node), operators[node]);
            check.due("28: letter of " + node, x.letterOf(node), letters[node]);
            check.due("28: first of " + node, x.operand(node, 0), firsts[node]);
            check.due("28: second of " + node, x.operand(node, 1), seconds[node]);
            check.due("28: size of " + node, x.size(node), sizes[node]);
        }
        check.due("28: again, new nodes", x.parse(), 14);
        check.due("19: equal", x.areEqual(7, 14), 1);
    }

    private static void meanings() {
        String[][] texts = {
            {"a", "a"}, {"((a))", "a"}, {"a+b*c", "a+(b*c)"}, {"a*b+c", "(a*b)+c"}, {"a+b+c", "(a+b)+c"}, {"a^b^c", "a^(b^c)"},
            {"-a*b", "(-a)*b"}, {"-a^b", "-(a^b)"}, {"-a!", "-(a!)"}, {"a^-b*c", "(a^(-b))*c"}, {"~a+b<c", "(~(a+b))<c"},
            {"a*~b+c", "a*(~(b+c))"}, {"a*~b<c", "(a*(~b))<c"}, {"a!+b!", "(a!)+(b!)"}, {"(a<b)<c", "(a<b)<c"},
            {"a<(b<c)", "a<(b<c)"}, {"a!^b!^c", "(a!)^((b!)^c)"}, {"--~a!!", "-(-(~((a!)!)))"}, {"a<~b", "a<(~b)"},
        };
        for (String[] row : texts) {
            check.due("28: meaning of " + row[0], Check.meaning(Check.usual(), row[0]), row[1]);
        }
        ExpressionPrinter x = new ExpressionPrinter();
        x.defineInfix('-', 4);
        x.definePrefix('-', 6);
        x.definePostfix('!', 9);
        x.definePrefix('!', 1);
        check.due("28: one symbol, two operators", Check.meaning(x, "a--b"), "a-(-b)");
        check.due("28: one symbol, two operators", Check.meaning(x, "!a!-!b!"), "!((a!)-(!(b!)))");
        check.due("28: one symbol, two operators", Check.meaning(x, "---a"), "-(-(-a))");
    }

    private static void errors() {
        String[][] texts = {
            {"", "1@0"}, {")", "1@0"}, {"+", "1@0"}, {"+a", "1@0"}, {"!", "1@0"}, {"A", "1@0"}, {"()", "1@1"}, {"a+", "1@2"},
            {"a+)", "1@2"}, {"-", "1@1"}, {"(", "1@1"}, {"a+*b", "1@2"}, {"ab", "2@1"}, {"a(", "2@1"}, {"a-b", "2@1"},
            {"aA", "2@1"}, {"a~", "2@1"}, {"(a)b", "2@3"}, {"a!b", "2@2"}, {"-ab", "2@2"}, {"(a", "3@2"}, {"((a)", "3@4"},
            {"(a+b", "3@4"}, {"-(a", "3@3"}, {"a)", "4@1"}, {"(a))", "4@3"}, {"a+b)c", "4@3"}, {"-a)", "4@2"},
            {"a<b<c", "5@3"}, {"(a<b<c", "5@4"}, {"a<b+c<d", "5@5"}, {"a<~b<c", "5@4"}, {"(a)<b<c", "5@5"}, {"(a<b)+c<d<e", "5@9"}, {"a<b!<c", "5@4"},
        };
        for (String[] row : texts) {
            ExpressionPrinter x = Check.usual();
            check.due("28-30: error of " + row[0], Check.fault(x, row[0]), row[1]);
            check.due("28: no nodes", x.nodeCount(), 0);
        }
        check.due("28: no operators", Check.fault(new ExpressionPrinter(), "a+b"), "2@1");
        check.due("28: no operators", Check.fault(new ExpressionPrinter(), "-a"), "1@0");
    }

    private static void orderOfErrorsInTheText() {
        ExpressionPrinter x = Check.usual();
        x.setForbidden(6, 6, true);
        check.due("28: not associative before forbidden", Check.fault(x, "a<b<c"), "5@3");
        x.setForbidden(0, 0, true);
        check.due("28: left is checked before the right is read", Check.fault(x, "a+b+)"), "6@3");
        check.due("28: right is checked after it is read", Check.fault(x, "a+b"), "root 2");
        x.setForbidden(0, 1, true);
        check.due("28: right after", Check.fault(x, "a+b*c)"), "6@1");
        check.due("28: error in the right first", Check.fault(x, "a+b*)"), "1@4");
        check.due("28: error after the right first", Check.fault(x, "a+b*cd"), "2@5");
        check.due("28: right before the next operator", Check.fault(x, "a+b*c+)"), "6@1");
        x.setForbidden(3, 4, true);
        check.due("28: prefix after its operand", Check.fault(x, "-a!b"), "2@3");
        check.due("28: prefix after its operand", Check.fault(x, "-a!*)"), "6@0");
        x.setForbidden(4, 4, true);
        check.due("28: postfix at its symbol", Check.fault(x, "a!!)"), "6@2");
        check.due("28: inner first", Check.fault(x, "-a!!"), "6@3");
    }

    private static void forbiddenPairs() {
        ExpressionPrinter x = Check.usual();
        x.setForbidden(0, 1, true);
        x.setForbidden(3, 3, true);
        x.setForbidden(4, 4, true);
        check.due("28: left", Check.fault(x, "a*b+c"), "6@3");
        check.due("28: right", Check.fault(x, "a+b*c"), "6@1");
        check.due("28: prefix", Check.fault(x, "a+--b"), "6@2");
        check.due("28: postfix", Check.fault(x, "a!!"), "6@2");
        check.due("28: no nodes", x.nodeCount(), 0);
        check.due("28: bracketed left", Check.meaning(x, "(a*b)+c"), "(a*b)+c");
        check.due("28: bracketed right", Check.meaning(x, "a+(b*c)"), "a+(b*c)");
        check.due("28: bracketed twice", Check.meaning(x, "a+((b*c))"), "a+(b*c)");
        check.due("28: bracketed prefix", Check.meaning(x, "-(-b)"), "-(-b)");
        check.due("28: bracketed postfix", Check.meaning(x, "(a!)!"), "(a!)!");
        check.due("28: the other way round", Check.meaning(x, "a*(b+c)"), "a*(b+c)");
        check.due("28: not an operand of it", Check.meaning(x, "a+-b*c"), "error -12");
        check.due("28: not an operand of it", Check.meaning(x, "a+~b*c"), "a+(~(b*c))");
    }

    private static void storedErrors() {
        ExpressionPrinter x = Check.usual();
        check.due("28: good", Check.parsed(x, "a"), 0);
        check.due("29: none yet", x.errorKind(), ExpressionPrinter.NONE);
        check.due("30: none yet", x.errorPosition(), ExpressionPrinter.NONE);
        check.due("28: bad", Check.parsed(x, "(a"), ExpressionPrinter.PARSE_ERROR);
        check.due("28: good", Check.parsed(x, "a"), 1);
        check.due("29: stays", x.errorKind(), ExpressionPrinter.EXPECTED_CLOSE);
        check.due("30: stays", x.errorPosition(), 2);
        x.clearInput();
        check.due("29: stays", x.errorKind(), ExpressionPrinter.EXPECTED_CLOSE);
        check.due("28: bad", Check.parsed(x, ")"), ExpressionPrinter.PARSE_ERROR);
        check.due("29: the latest", x.errorKind(), ExpressionPrinter.EXPECTED_OPERAND);
        check.due("30: the latest", x.errorPosition(), 0);
        check.due("28: too large", Check.parsed(x, "a" + "!".repeat(40)), ExpressionPrinter.TOO_LARGE);
        check.due("29: stays", x.errorKind(), ExpressionPrinter.EXPECTED_OPERAND);
        check.due("30: stays", x.errorPosition(), 0);
    }

    private static void tooLargeAndTooMany() {
        ExpressionPrinter x = Check.usual();
        check.due("28: 40", Check.parsed(x, "a" + "!".repeat(39)), 39);
        check.due("28: 41", Check.parsed(x, "a" + "!".repeat(40)), ExpressionPrinter.TOO_LARGE);
        check.due("28: 120", Check.parsed(x, "-".repeat(60) + "a" + "!".repeat(59)), ExpressionPrinter.TOO_LARGE);
        check.due("28: an error comes first", Check.parsed(x, "-".repeat(60) + "a" + "!".repeat(58) + ")"), ExpressionPrinter.PARSE_ERROR);
        check.due("30: its position", x.errorPosition(), 119);
        check.due("14: nothing added", x.nodeCount(), 40);
        tooManyForParse();
    }

    private static void tooManyForParse() {
        ExpressionPrinter x = Check.usual();
        check.due("28: 40", Check.parsed(x, "a" + "!".repeat(39)), 39);
        check.due("28: 80", Check.parsed(x, "-".repeat(39) + "a"), 79);
        check.due("28: 101", Check.parsed(x, "-".repeat(20) + "a"), ExpressionPrinter.TOO_MANY);
        check.due("28: large first", Check.parsed(x, "-".repeat(40) + "a"), ExpressionPrinter.TOO_LARGE);
        check.due("14: nothing added", x.nodeCount(), 80);
        check.due("27: the input stays", x.clearInput(), 41);
        check.due("28: 100", Check.parsed(x, "-".repeat(19) + "a"), 99);
        check.due("28: 101", Check.parsed(x, "a"), ExpressionPrinter.TOO_MANY);
        check.due("28: error first", Check.parsed(x, "aa"), ExpressionPrinter.PARSE_ERROR);
        check.due("20: printed", Check.printed(x, 99), "-".repeat(19) + "a");
        check.due("20: printed", Check.printed(x, 39), "a" + "!".repeat(39));
    }

    private static void deepTexts() {
        check.due("28: 59 pairs", Check.parsed(Check.usual(), "(".repeat(59) + "a" + ")".repeat(59)), 0);
        String[][] faults = {
            {"(".repeat(59) + "a" + ")".repeat(60), "4@119"}, {"(".repeat(60) + "a" + ")".repeat(59), "3@120"},
            {"-".repeat(120), "1@120"}, {"a^".repeat(60), "1@120"},
        };
        for (String[] row : faults) {
            check.due("28: " + row[0], Check.fault(Check.usual(), row[0]), row[1]);
        }
        String[] large = {"-".repeat(119) + "a", "a^".repeat(59) + "a", "a+".repeat(59) + "a!"};
        for (String text : large) {
            ExpressionPrinter x = Check.usual();
            check.due("28: " + text, Check.parsed(x, text), ExpressionPrinter.TOO_LARGE);
            check.due("14: nodeCount", x.nodeCount(), 0);
        }
    }
}

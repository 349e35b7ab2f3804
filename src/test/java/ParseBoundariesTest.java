import java.util.List;

/** The boundary cases of promises 25 to 30 and of GRAMMAR; each test says which sentence it looks at. */
public final class ParseBoundariesTest {
    private static final int LEAST = Integer.MIN_VALUE, GREATEST = Integer.MAX_VALUE;
    private static final int PLUS = States.PLUS, TIMES = States.TIMES, MINUS = States.MINUS, FACTORIAL = States.FACTORIAL;
    private static final Check check = new Check();

    public static void main(String[] args) {
        codesOfCharacters();
        hundredAndTwentyCharacters();
        appendToACopiedOutput();
        copiesOfTheOutput();
        clearedInputs();
        expectedOperand();
        expectedClose();
        expectedOperator();
        unexpectedClose();
        notAssociative();
        forbiddenPair();
        leftIsCheckedBeforeTheRightIsRead();
        bracketedOperands();
        longestTexts();
        sizesOfTrees();
        roomForTheNodes();
        firstErrorOfParse();
        parseErrorChangesTheErrorOnly();
        theInputStays();
        orderOfTheNodes();
        noErrorYet();
        latestError();
        check.end("ParseBoundariesTest");
    }

    /** Each row is a text and the kind and position of its error. */
    private static void faults(ExpressionPrinter x, String[][] rows) {
        for (String[] row : rows) {
            int nodes = x.nodeCount();
            check.due("28: error of " + row[0], Check.fault(x, row[0]), row[1]);
            check.due("28: no node of " + row[0], x.nodeCount(), nodes);
        }
    }

    private static void meanings(ExpressionPrinter x, String[][] rows) {
        for (String[] row : rows) {
            check.due("28: meaning of " + row[0], Check.meaning(x, row[0]), row[1]);
        }
    }

    // ---- 25 to 27: the input

    /** "Any character is accepted if its code is 33 to 126."; "BAD_SYMBOL if the code is out of range" */
    private static void codesOfCharacters() {
        int[] bad = {LEAST, 97 - 65536, 97 - 256, -97, -1, 0, 10, 31, 32, 127, 128, 97 + 256, 97 + 65536, GREATEST};
        for (int code : bad) {
            check.refused("25: append(" + code + ")", States::busy, x -> x.append(code), -3);
            check.refused("25: append(" + code + ") to nothing", ExpressionPrinter::new, x -> x.append(code), -3);
        }
        ExpressionPrinter x = new ExpressionPrinter();
        for (int code = 33; code <= 126; code++) {
            check.due("25: append(" + code + ")", x.append(code), code - 32);
        }
        check.due("27: all of them", x.clearInput(), 94);
    }

    /** "TOO_LARGE if the input has 120 characters" */
    private static void hundredAndTwentyCharacters() {
        ExpressionPrinter x = new ExpressionPrinter();
        for (int length = 1; length <= 120; length++) {
            check.due("25: append", x.append(length % 2 == 0 ? '!' : '~'), length);
        }
        check.due("25: 121st", x.append('a'), -7);
        check.due("25: 121st", x.append('a'), -7);
        check.due("27: none of them is there", x.clearInput(), 120);
        int[] signs = {33, 97, 126, '(', ')'};
        for (int sign : signs) {
            check.refused("25: 121st, " + sign, States::fullInput, y -> y.append(sign), -7);
        }
        int[] bad = {LEAST, -1, 32, 127, GREATEST};
        for (int sign : bad) {
            check.refused("25: 121st, and no character " + sign, States::fullInput, y -> y.append(sign), -3);
        }
    }

    /** The same sentence, where the longest output has become the input. */
    private static void appendToACopiedOutput() {
        ExpressionPrinter x = States.hundredNodes();
        check.due("26: the longest output", x.copyOutput(), 116);
        for (int length = 117; length <= 120; length++) {
            check.due("25: append", x.append('!'), length);
        }
        check.due("25: 121st", x.append('!'), -7);
        check.due("22: the output is not longer", x.outputAt(116), -9);
        check.due("28: size 44", x.parse(), -7);
        check.due("26: again", x.copyOutput(), 116);
        check.due("25: append", x.append('!'), 117);
        check.due("28: size 41", x.parse(), -7);
        check.due("27: removed", x.clearInput(), 117);
    }

    /** "Replaces the input by the output; returns its length.": nothing, a short one and a long one. */
    private static void copiesOfTheOutput() {
        ExpressionPrinter x = States.fullInput();
        check.due("26: nothing printed", x.copyOutput(), 0);
        check.due("28: the input is empty", x.parse(), -12);
        check.due("30: the input is empty", x.errorPosition(), 0);
        check.due("27: the input is empty", x.clearInput(), 0);
        ExpressionPrinter y = States.fullInput();
        y.print(y.leaf('q'));
        check.due("26: one character", y.copyOutput(), 1);
        check.due("26: once more", y.copyOutput(), 1);
        check.due("28: that character", y.letterOf(y.parse()), 'q');
        check.due("27: removed", y.clearInput(), 1);
        check.due("26: the output is still there", y.copyOutput(), 1);
        ExpressionPrinter z = States.busy();
        check.due("26: longer than the input", z.copyOutput(), 15);
        check.due("28: that text", Check.printedFull(z, z.parse()), "((a+b)*c)<(d<e)");
    }

    /** "Empties the input; returns the number of characters removed." */
    private static void clearedInputs() {
        ExpressionPrinter x = new ExpressionPrinter();
        check.due("27: nothing", x.clearInput(), 0);
        x.append('a');
        check.due("27: one", x.clearInput(), 1);
        check.due("27: nothing", x.clearInput(), 0);
        ExpressionPrinter y = States.fullInput();
        check.due("27: all", y.clearInput(), 120);
        check.due("27: nothing", y.clearInput(), 0);
        check.due("25: there is room again", y.append('a'), 1);
        check.due("28: the old text is gone", y.parse(), 0);
        ExpressionPrinter z = States.busy();
        z.clearInput();
        check.due("27: the output stays", Check.output(z), "((a+b)*c)<(d<e)");
        check.due("27: the error stays", z.errorKind() + "@" + z.errorPosition(), "5@3");
    }

    // ---- 28: the errors of GRAMMAR

    /** "Anything else, or the end of the text, is the error EXPECTED_OPERAND at that position." */
    private static void expectedOperand() {
        faults(Check.usual(), new String[][] {
            {"", "1@0"}, {"(", "1@1"}, {"((", "1@2"}, {"-", "1@1"}, {"--", "1@2"}, {"a+", "1@2"}, {"a+-", "1@3"}, {"a!+", "1@3"},
            {"(a+", "1@3"}, {")", "1@0"}, {"()", "1@1"}, {"(())", "1@2"}, {"-)", "1@1"}, {"a+)", "1@2"}, {"+", "1@0"}, {"!", "1@0"},
            {"(+", "1@1"}, {"-+", "1@1"}, {"a+!", "1@2"}, {"a++b", "1@2"}, {"A", "1@0"}, {"#a", "1@0"}, {"-#", "1@1"}, {"{", "1@0"},
            {"`", "1@0"},
        });
        faults(new ExpressionPrinter(), new String[][] {{"", "1@0"}, {"-a", "1@0"}, {"~", "1@0"}, {"(", "1@1"}});
        check.due("28: the first letter", Check.parsed(Check.usual(), "a"), 0);
        check.due("28: the last letter", Check.parsed(Check.usual(), "z"), 0);
    }

    /** "If the closing bracket is missing, the error is EXPECTED_CLOSE at the position where it should be." */
    private static void expectedClose() {
        faults(Check.usual(), new String[][] {
            {"(a", "3@2"}, {"((a", "3@3"}, {"((a)", "3@4"}, {"(a+b", "3@4"}, {"(a!", "3@3"}, {"(-a", "3@3"}, {"-(a", "3@3"},
            {"a+(b", "3@4"}, {"a+(b)*(c", "3@8"}, {"(a)+((b)", "3@8"}, {"(a^(b^(c)", "3@9"},
        });
        meanings(Check.usual(), new String[][] {{"(a)", "a"}, {"((a))", "a"}, {"a+(b)*(c)", "a+(b*c)"}});
    }

    /** "If it is not the symbol of an INFIX or POSTFIX operator, the error is EXPECTED_OPERATOR at its position." */
    private static void expectedOperator() {
        faults(Check.usual(), new String[][] {
            {"ab", "2@1"}, {"a(", "2@1"}, {"a(b)", "2@1"}, {"(a)(b)", "2@3"}, {"(a)b", "2@3"}, {"(ab)", "2@2"}, {"a-b", "2@1"},
            {"a~", "2@1"}, {"a#b", "2@1"}, {"aA", "2@1"}, {"a!b", "2@2"}, {"a!-", "2@2"}, {"a!(", "2@2"}, {"-ab", "2@2"}, {"a+bc", "2@3"},
            {"a+b#", "2@3"}, {"-(a)b", "2@4"}, {"a^b^cd", "2@5"},
        });
        faults(new ExpressionPrinter(), new String[][] {{"a+b", "2@1"}, {"aa", "2@1"}, {"(a)!", "2@3"}});
        ExpressionPrinter x = Check.usual();
        x.defineInfix('-', 4);
        meanings(x, new String[][] {{"a-b", "a-b"}, {"a--b", "a-(-b)"}});
    }

    /** "If a closing bracket follows then, the error is UNEXPECTED_CLOSE at its position." */
    private static void unexpectedClose() {
        faults(Check.usual(), new String[][] {
            {"a)", "4@1"}, {"a))", "4@1"}, {"a)b", "4@1"}, {"a)(", "4@1"}, {"(a))", "4@3"}, {"((a)))", "4@5"}, {"a+b)", "4@3"},
            {"-a)", "4@2"}, {"a!)", "4@2"}, {"a^b^c)", "4@5"}, {"(a)+b)", "4@5"}, {"a)<b<c", "4@1"},
        });
    }

    /** "the left side is an INFIX node of the same level that is not bracketed": each part of it. */
    private static void notAssociative() {
        ExpressionPrinter x = Check.usual();
        x.defineInfix('>', 2);
        x.defineInfix('=', 1);
        x.definePrefix('@', 1);
        x.definePostfix('?', 1);
        faults(x, new String[][] {
            {"a<b<c", "5@3"}, {"a<b>c", "5@3"}, {"a>b<c", "5@3"}, {"a<b<", "5@3"}, {"a<b<)", "5@3"}, {"(a<b<c)", "5@4"},
            {"(a)<(b)<c", "5@7"}, {"a<b+c<d", "5@5"}, {"a<b!<c", "5@4"}, {"a<~b<c", "5@4"}, {"@a<b<c", "5@4"}, {"a=b<c<d", "5@5"},
        });
        meanings(x, new String[][] {
            {"a<b", "a<b"}, {"(a<b)<c", "(a<b)<c"}, {"((a<b))<c", "(a<b)<c"}, {"a<(b<c)", "a<(b<c)"}, {"a<b?<c", "((a<b)?)<c"},
            {"a<@b<c", "a<(@(b<c))"}, {"~a<b", "(~a)<b"}, {"a=b=c", "(a=b)=c"}, {"a<b=c<d", "(a<b)=(c<d)"}, {"a+b<c", "(a+b)<c"},
        });
    }

    /** "the error is FORBIDDEN_PAIR at the position of the node's symbol": of each kind, on each side. */
    private static void forbiddenPair() {
        ExpressionPrinter x = Check.usual();
        x.setForbidden(PLUS, TIMES, true);
        x.setForbidden(MINUS, FACTORIAL, true);
        x.setForbidden(FACTORIAL, FACTORIAL, true);
        x.setForbidden(TIMES, MINUS, true);
        faults(x, new String[][] {
            {"a*b+c", "6@3"}, {"a+b*c", "6@1"}, {"a+b+c*d", "6@3"}, {"-a!", "6@0"}, {"a+-b!", "6@2"}, {"a!!", "6@2"}, {"a!!!", "6@2"},
            {"-a*b", "6@2"}, {"a*-b", "6@1"}, {"(a+b*c", "6@2"}, {"a+b*c)", "6@1"}, {"a*b+c*d", "6@3"},
        });
        meanings(x, new String[][] {{"a*b*c", "(a*b)*c"}, {"a+b+c", "(a+b)+c"}, {"--a", "-(-a)"}, {"a!+b", "(a!)+b"}, {"-a+b", "(-a)+b"}});
    }

    /** "the left operand is checked after the check for NOT_ASSOCIATIVE and before the right operand is read, and the right operand after" */
    private static void leftIsCheckedBeforeTheRightIsRead() {
        ExpressionPrinter x = Check.usual();
        x.setForbidden(States.LESS, States.LESS, true);
        x.setForbidden(PLUS, PLUS, true);
        x.setForbidden(PLUS, TIMES, true);
        x.setForbidden(MINUS, FACTORIAL, true);
        faults(x, new String[][] {
            {"a<b<c", "5@3"}, {"a+b+", "6@3"}, {"a+b+)", "6@3"}, {"a*b+#", "6@3"}, {"a+b*", "1@4"}, {"a+b*)", "1@4"}, {"a+b*cd", "2@5"},
            {"a+b*c", "6@1"}, {"a+b*c+", "6@1"}, {"a+b*c<)", "6@1"}, {"a+(b*c", "3@6"}, {"-a!", "6@0"}, {"-a!#", "2@3"}, {"-a!+)", "6@0"},
            {"-a!)", "6@0"}, {"-(a!", "3@4"}, {"a*-b!", "6@2"}, {"a+b*-c!", "6@4"},
        });
    }

    /** "it counts as bracketed"; "The new left side is not bracketed."; "one of its operands is not bracketed" */
    private static void bracketedOperands() {
        ExpressionPrinter x = Check.usual();
        x.setForbidden(PLUS, TIMES, true);
        x.setForbidden(PLUS, FACTORIAL, true);
        x.setForbidden(MINUS, MINUS, true);
        meanings(x, new String[][] {
            {"(a*b)+c", "(a*b)+c"}, {"a+(b*c)", "a+(b*c)"}, {"((a*b))+((c*d))", "(a*b)+(c*d)"}, {"-(-a)", "-(-a)"}, {"(a)+(b)", "a+b"},
            {"-(a)", "-a"}, {"(a!)+b", "(a!)+b"},
        });
        faults(x, new String[][] {
            {"(a)*(b)+c", "6@7"}, {"(a*b)*c+d", "6@7"}, {"(a*b)!+c", "6@6"}, {"a+(b)!", "6@1"}, {"-(a)+--b", "6@5"}, {"a+(b)*c", "6@1"},
            {"(a+b*c)", "6@2"},
        });
    }

    /** "TOO_LARGE if the input has 120 characters": texts that long are read to their ends. */
    private static void longestTexts() {
        String[][] rows = {
            {"(".repeat(120), "1@120"}, {"-".repeat(120), "1@120"}, {"a^".repeat(60), "1@120"}, {"a+".repeat(60), "1@120"},
            {"(".repeat(60) + "a" + ")".repeat(59), "3@120"}, {"(".repeat(59) + "a" + ")".repeat(60), "4@119"},
            {"(".repeat(119) + "a", "3@120"}, {"-".repeat(118) + "ab", "2@119"},
        };
        for (String[] row : rows) {
            faults(Check.usual(), new String[][] {row});
        }
        check.due("28: brackets only", Check.meaning(Check.usual(), "(".repeat(59) + "a!" + ")".repeat(59)), "a!");
        check.due("28: 120 characters, 40 nodes", States.fullInput().parse(), 39);
    }

    // ---- 28: the other answers of parse

    /** "TOO_LARGE if there is none but the size of the tree exceeds 40" */
    private static void sizesOfTrees() {
        String[] good = {"-".repeat(39) + "a", "a" + "!".repeat(39), "a+".repeat(19) + "a!", "a^".repeat(19) + "-a", "(a+b)" + "!".repeat(37)};
        for (String text : good) {
            ExpressionPrinter x = Check.usual();
            check.due("28: 40, " + text, Check.parsed(x, text), 39);
            check.due("18: 40, " + text, x.size(39), 40);
            for (int i = 1; i <= 2; i++) {
                String more = text + "!".repeat(i);
                check.refused("28: more than 40, " + more, () -> typed(Check.usual(), more), ExpressionPrinter::parse, -7);
            }
        }
        check.refused("28: 41 of infixes", () -> typed(Check.usual(), "a+".repeat(20) + "a"), ExpressionPrinter::parse, -7);
        check.refused("28: 120", () -> typed(Check.usual(), "-".repeat(60) + "a" + "!".repeat(59)), ExpressionPrinter::parse, -7);
        check.refused("28: 119 prefixes", () -> typed(Check.usual(), "-".repeat(119) + "a"), ExpressionPrinter::parse, -7);
        check.refused("28: 119 postfixes", () -> typed(Check.usual(), "a" + "!".repeat(119)), ExpressionPrinter::parse, -7);
        check.refused("28: 59 infixes", () -> typed(Check.usual(), "a^".repeat(59) + "-a"), ExpressionPrinter::parse, -7);
        check.refused("28: after an error", States::largeInput, ExpressionPrinter::parse, -7);
    }

    private static ExpressionPrinter typed(ExpressionPrinter x, String text) {
        Check.type(x, text);
        return x;
    }

    /** "TOO_MANY if there would be more than 100 nodes" */
    private static void roomForTheNodes() {
        int[] counts = {60, 80, 97, 98, 99, 100};
        for (int count : counts) {
            int room = 100 - count;
            String tooMuch = "-".repeat(room) + "a";
            if (room > 0) {
                String fits = "-".repeat(room - 1) + "a";
                ExpressionPrinter x = typed(States.nodes(count), fits);
                check.due("28: " + room + " to " + count, x.parse(), 99);
                check.due("14: count", x.nodeCount(), 100);
                check.due("20: the new tree", Check.printed(x, 99), fits);
                check.due("28: once more", x.parse(), -6);
            }
            if (room < 40) {
                check.refused("28: " + (room + 1) + " to " + count, () -> typed(States.nodes(count), tooMuch), ExpressionPrinter::parse, -6);
            }
        }
        check.refused("28: 40 to 61", () -> typed(States.nodes(61), "-".repeat(39) + "a"), ExpressionPrinter::parse, -6);
        check.refused("28: 3 to 98", () -> typed(States.nodes(98), "a+b"), ExpressionPrinter::parse, -6);
    }

    /** "PARSE_ERROR .. TOO_LARGE .. TOO_MANY": the first that applies. */
    private static void firstErrorOfParse() {
        ExpressionPrinter x = States.nodes(100);
        check.due("28: error, room", Check.parsed(x, "a+"), -12);
        check.due("28: error, room", x.errorKind() + "@" + x.errorPosition(), "1@2");
        check.due("28: error, size, room", Check.parsed(x, "a" + "!".repeat(45) + ")"), -12);
        check.due("28: error, size, room", x.errorKind() + "@" + x.errorPosition(), "4@46");
        check.due("28: size, room", Check.parsed(x, "a" + "!".repeat(40)), -7);
        check.due("28: room", Check.parsed(x, "a" + "!".repeat(39)), -6);
        check.due("28: room", Check.parsed(x, "a"), -6);
        ExpressionPrinter y = Check.usual();
        check.due("28: error, size", Check.parsed(y, "-".repeat(41) + "a)"), -12);
        check.due("28: error, size", y.errorKind() + "@" + y.errorPosition(), "4@42");
        check.refused("28: size, room", () -> typed(States.nodes(100), "a" + "!".repeat(40)), ExpressionPrinter::parse, -7);
    }

    private static List<String> withoutErrors(List<String> lines) {
        return lines.stream().filter(line -> !line.startsWith("error")).toList();
    }

    /** "PARSE_ERROR if there is a parse error, whose kind and position are stored": nothing else changes. */
    private static void parseErrorChangesTheErrorOnly() {
        check.due("28: error", States.brokenInput().parse(), -12);
        List<String> before = Probe.of(States::brokenInput);
        List<String> after = Probe.after(States::brokenInput, ExpressionPrinter::parse);
        check.same("28: parse with an error", withoutErrors(after), withoutErrors(before));
        check.due("29: before", before.contains("errorKind = 5") ? 1 : 0, 1);
        check.due("29: after", after.contains("errorKind = 3") ? 1 : 0, 1);
        check.due("30: before", before.contains("errorPosition = 3") ? 1 : 0, 1);
        check.due("30: after", after.contains("errorPosition = 4") ? 1 : 0, 1);
    }

    /** "The input stays." */
    private static void theInputStays() {
        String[] texts = {"a+b", "(a", "a" + "!".repeat(40), "a", ""};
        for (String text : texts) {
            for (int way = 0; way < 2; way++) {
                ExpressionPrinter x = typed(way == 0 ? Check.usual() : States.nodes(100), text);
                int one = x.parse();
                int other = x.parse();
                check.due("28: the same again", other, one < 0 ? one : 2 * one + 1);
                check.due("25: goes on behind it", x.append('!'), text.length() + 1);
                check.due("27: all of it", x.clearInput(), text.length() + 1);
            }
        }
        ExpressionPrinter full = States.fullInput();
        full.parse();
        check.due("28: the longest input", full.append('a'), -7);
        check.due("28: once more", full.parse(), 79);
        check.due("28: no room", full.parse(), -6);
        check.due("27: all of it", full.clearInput(), 120);
    }

    /** "created in the order in which they are completed, so that the operands of a node are created before it, the left one first" */
    private static void orderOfTheNodes() {
        ExpressionPrinter x = Check.usual();
        x.leaf('z');
        check.due("28: root", Check.parsed(x, "a+a*-b!<(c)"), 9);
        String[] nodes = {"z", "a", "a", "b", "b!", "-(b!)", "a*(-(b!))", "a+(a*(-(b!)))", "c", "(a+(a*(-(b!))))<c"};
        for (int node = 0; node < nodes.length; node++) {
            check.due("28: node " + node, Check.printedFull(x, node), nodes[node]);
        }
        int[][] operands = {{4, 3, -10}, {5, 4, -10}, {6, 2, 5}, {7, 1, 6}, {9, 7, 8}};
        for (int[] row : operands) {
            check.due("17: first of " + row[0], x.operand(row[0], 0), row[1]);
            check.due("17: second of " + row[0], x.operand(row[0], 1), row[2]);
        }
    }

    // ---- 29 and 30: the stored error

    /** "or NONE if there was none": whatever else has been refused. */
    private static void noErrorYet() {
        ExpressionPrinter x = States.nodes(100);
        x.defineInfix('a', 0);
        x.leaf('A');
        x.print(100);
        x.append(32);
        x.printFull(39);
        x.readWithout(1);
        check.due("28: too many", Check.parsed(x, "a"), -6);
        check.due("28: too large", Check.parsed(x, "a" + "!".repeat(40)), -7);
        check.due("29: none", x.errorKind(), -10);
        check.due("30: none", x.errorPosition(), -10);
        ExpressionPrinter y = States.fullInput();
        check.due("28: read", y.parse(), 39);
        check.due("29: none", y.errorKind(), -10);
        check.due("30: none", y.errorPosition(), -10);
        ExpressionPrinter z = Check.usual();
        z.printFull(Check.parsed(z, "(a<b)<c"));
        check.due("24: unreadable", z.readWithout(0), 2);
        check.due("29: none", z.errorKind(), -10);
        check.due("30: none", z.errorPosition(), -10);
    }

    /** "of the latest call of parse that returned PARSE_ERROR" */
    private static void latestError() {
        ExpressionPrinter x = Check.usual();
        x.setForbidden(MINUS, MINUS, true);
        String[] texts = {"", "ab", "(ab+", "(a", "a+b)", "a<b<c", "a+--b", ")"};
        String[] wants = {"1@0", "2@1", "2@2", "3@2", "4@3", "5@3", "6@2", "1@0"};
        for (int i = 0; i < texts.length; i++) {
            check.due("28: " + texts[i], Check.parsed(x, texts[i]), -12);
            check.due("29, 30: " + texts[i], x.errorKind() + "@" + x.errorPosition(), wants[i]);
            check.due("28: no error", Check.parsed(x, "a") >= 0 ? 1 : 0, 1);
            check.due("28: too large", Check.parsed(x, "a" + "!".repeat(40)), -7);
            x.clearInput();
            check.due("29, 30: stays after " + texts[i], x.errorKind() + "@" + x.errorPosition(), wants[i]);
        }
        check.changesNothing("29: errorKind", States::busy, ExpressionPrinter::errorKind);
        check.changesNothing("30: errorPosition", States::busy, ExpressionPrinter::errorPosition);
    }
}

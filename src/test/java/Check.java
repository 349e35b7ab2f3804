import java.util.List;

/** What the tests share: comparing answers, and short ways to make calls. */
final class Check {
    private int wrong = 0;
    private int asked = 0;

    void due(String call, long got, long want) {
        asked++;
        if (got != want) {
            wrong++;
            System.out.println(call + " answered " + got + ", due is " + want);
        }
    }

    void due(String call, String got, String want) {
        asked++;
        if (!got.equals(want)) {
            wrong++;
            System.out.println(call + " answered " + got + ", due is " + want);
        }
    }

    /** Compares two lists of answers, and tells the first line in which they differ. */
    void same(String call, List<String> got, List<String> want) {
        asked++;
        if (!got.equals(want)) {
            wrong++;
            int line = 0;
            while (line < got.size() && line < want.size() && got.get(line).equals(want.get(line))) {
                line++;
            }
            System.out.println(call + " changed " + (line < want.size() ? want.get(line) : "the end")
                    + " to " + (line < got.size() ? got.get(line) : "the end"));
        }
    }

    /** A call that is refused: it answers the error, and changes nothing that other calls show. */
    void refused(String name, Probe.State state, Probe.Call call, int error) {
        due(name, call.on(state.make()), error);
        changesNothing(name, state, call);
    }

    void changesNothing(String name, Probe.State state, Probe.Call call) {
        same(name, Probe.after(state, call), Probe.of(state));
    }

    boolean allRight() {
        return wrong == 0;
    }

    void end(String name) {
        System.out.println(name + ": " + asked + " answers, " + wrong + " wrong");
        if (wrong != 0) {
            System.exit(1);
        }
    }

    /** The output as a text. */
    static String output(ExpressionPrinter x) {
        StringBuilder text = new StringBuilder();
        int sign = x.outputAt(0);
        for (int i = 1; sign >= 0; i++) {
            text.append((char) sign);
            sign = x.outputAt(i);
        }
        return text.toString();
    }

    static String printed(ExpressionPrinter x, int node) {
        int length = x.print(node);
        String text = output(x);
        return length == text.length() ? text : "length " + length + " of " + text;
    }

    static String printedFull(ExpressionPrinter x, int node) {
        int length = x.printFull(node);
        String text = output(x);
        return length == text.length() ? text : "length " + length + " of " + text;
    }

    /** Replaces the input by a text and parses it. */
    static int parsed(ExpressionPrinter x, String text) {
        type(x, text);
        return x.parse();
    }

    static void type(ExpressionPrinter x, String text) {
        x.clearInput();
        for (int i = 0; i < text.length(); i++) {
            x.append(text.charAt(i));
        }
    }

    /** "kind@position" of the error that parsing the text gives, or the root. */
    static String fault(ExpressionPrinter x, String text) {
        int root = parsed(x, text);
        return root == ExpressionPrinter.PARSE_ERROR ? x.errorKind() + "@" + x.errorPosition() : "root " + root;
    }

    /** Parses a text, which adds its nodes, and prints its tree with every bracket. */
    static String meaning(ExpressionPrinter x, String text) {
        int root = parsed(x, text);
        return root < 0 ? "error " + root : printedFull(x, root);
    }

    /** The operators of the document's tests: + * ^ (right) - (prefix) ! (postfix) ~ (prefix) < (none). */
    static ExpressionPrinter usual() {
        ExpressionPrinter x = new ExpressionPrinter();
        x.defineInfix('+', 4);
        x.defineInfix('*', 5);
        x.defineInfix('^', 7);
        x.definePrefix('-', 6);
        x.definePostfix('!', 8);
        x.definePrefix('~', 3);
        x.defineInfix('<', 2);
        x.setAssociativity(7, ExpressionPrinter.RIGHT);
        x.setAssociativity(2, ExpressionPrinter.NO_ASSOCIATIVITY);
        return x;
    }
}

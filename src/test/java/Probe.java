import java.util.ArrayList;
import java.util.List;

/**
 * All that calls show of an object in some state, a line for each answer. Each part looks at a new
 * object in that state, since looking changes it, and since an object answers 512 calls only.
 */
final class Probe {
    /** Makes a new object, with the calls that lead to the state: at most 200. */
    interface State {
        ExpressionPrinter make();
    }

    interface Call {
        int on(ExpressionPrinter x);
    }

    private final List<String> lines = new ArrayList<>();

    private Probe() {
    }

    static List<String> of(State state) {
        Probe probe = new Probe();
        probe.operators(state.make());
        probe.forbiddenPairs(state.make());
        probe.freeSymbols(state.make());
        int nodes = state.make().nodeCount();
        probe.nodes(state.make(), 0, Math.min(nodes, 50));
        probe.nodes(state.make(), Math.min(nodes, 50), nodes);
        probe.output(state.make());
        probe.copiedOutput(state.make());
        probe.input(state.make());
        probe.inputLength(state.make());
        probe.newNode(state.make());
        probe.printing(state.make());
        return probe.lines;
    }

    static List<String> after(State state, Call call) {
        return of(() -> {
            ExpressionPrinter x = state.make();
            call.on(x);
            return x;
        });
    }

    private void line(String call, int answer) {
        lines.add(call + " = " + answer);
    }

    private void operators(ExpressionPrinter x) {
        line("operatorCount", x.operatorCount());
        for (int operator = -1; operator <= 16; operator++) {
            line("symbol(" + operator + ")", x.symbol(operator));
            line("kind(" + operator + ")", x.kind(operator));
            line("level of " + operator, x.setLevel(operator, 1));
        }
        for (int level = 1; level <= 9; level++) {
            line("associativity of " + level, x.setAssociativity(level, 0));
        }
    }

    private void forbiddenPairs(ExpressionPrinter x) {
        int count = x.operatorCount();
        for (int outer = 0; outer < count; outer++) {
            for (int inner = 0; inner < count; inner++) {
                line("pair " + outer + ", " + inner, x.setForbidden(outer, inner, false));
            }
        }
    }

    /** Whether each symbol can still be defined; what is free takes the indices that are left. */
    private void freeSymbols(ExpressionPrinter x) {
        for (int symbol = 33; symbol <= 126; symbol++) {
            line("definePostfix(" + symbol + ")", x.definePostfix(symbol, 9));
            line("definePrefix(" + symbol + ")", x.definePrefix(symbol, 9));
        }
    }

    private void nodes(ExpressionPrinter x, int from, int to) {
        line("nodeCount", x.nodeCount());
        for (int node = from; node < to; node++) {
            line("operatorOf(" + node + ")", x.operatorOf(node));
            line("letterOf(" + node + ")", x.letterOf(node));
            line("operand(" + node + ", 0)", x.operand(node, 0));
            line("operand(" + node + ", 1)", x.operand(node, 1));
            line("size(" + node + ")", x.size(node));
        }
    }

    private void output(ExpressionPrinter x) {
        line("errorKind", x.errorKind());
        line("errorPosition", x.errorPosition());
        lines.add("output " + Check.output(x));
        int pairs = x.bracketPairs();
        line("bracketPairs", pairs);
        for (int pair = -1; pair <= pairs; pair++) {
            line("readWithout(" + pair + ")", x.readWithout(pair));
        }
    }

    private void copiedOutput(ExpressionPrinter x) {
        line("copyOutput", x.copyOutput());
        parse(x);
    }

    private void input(ExpressionPrinter x) {
        parse(x);
        line("clearInput after parse", x.clearInput());
    }

    private void parse(ExpressionPrinter x) {
        int before = x.nodeCount();
        line("parse", x.parse());
        line("errorKind after parse", x.errorKind());
        line("errorPosition after parse", x.errorPosition());
        nodes(x, before, x.nodeCount());
    }

    private void inputLength(ExpressionPrinter x) {
        line("append", x.append('a'));
        line("clearInput", x.clearInput());
        line("append to the empty input", x.append('a'));
    }

    private void newNode(ExpressionPrinter x) {
        line("leaf", x.leaf('a'));
        line("nodeCount after leaf", x.nodeCount());
        line("areEqual with the first", x.areEqual(0, x.nodeCount() - 1));
    }

    private void printing(ExpressionPrinter x) {
        int root = x.nodeCount() - 1;
        lines.add("print " + Check.printed(x, root));
        lines.add("printFull " + Check.printedFull(x, root));
    }
}

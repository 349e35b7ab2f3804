import java.util.ArrayList;
import java.util.List;
import java.util.stream.IntStream;

/**
 * CONVENTIONS: "When several errors apply, the method returns the one that its Javadoc lists first."
 * and "A call that returns an error changes nothing, unless its Javadoc says otherwise."
 * Every method that can be refused is called in many states with the arguments at its edges, in all combinations.
 */
public final class RefusedCallsTest {
    private static final int LEAST = Integer.MIN_VALUE, GREATEST = Integer.MAX_VALUE;
    private static final int[] SIGNS = {LEAST, -1, 0, 32, 33, 39, 40, 41, 42, 65, 96, 97, 122, 123, 126, 127, 256 + 43, 65536 + 97, GREATEST};
    private static final int[] LEVELS = {LEAST, -1, 0, 1, 9, 10, GREATEST};
    private static final Check check = new Check();

    private final String name;
    private final Probe.State state;
    private final List<String> unchanged;
    /** What is known of the state by calls that the other tests look at. */
    private final int operators, nodes, pairs;
    private final int[] symbols, kinds, sizes;
    private final String output;

    private RefusedCallsTest(String name, Probe.State state) {
        this.name = name;
        this.state = state;
        unchanged = Probe.of(state);
        ExpressionPrinter known = state.make();
        operators = known.operatorCount();
        symbols = IntStream.range(0, operators).map(known::symbol).toArray();
        kinds = IntStream.range(0, operators).map(known::kind).toArray();
        nodes = known.nodeCount();
        sizes = IntStream.range(0, nodes).map(known::size).toArray();
        output = Check.output(known);
        pairs = known.bracketPairs();
    }

    public static void main(String[] args) {
        states();
        new RefusedCallsTest("new", ExpressionPrinter::new).all();
        new RefusedCallsTest("usual", Check::usual).all();
        new RefusedCallsTest("busy", States::busy).all();
        new RefusedCallsTest("sixteen operators", States::sixteenOperators).all();
        new RefusedCallsTest("hundred nodes", States::hundredNodes).all();
        new RefusedCallsTest("ninety-nine nodes", () -> States.nodes(99)).all();
        new RefusedCallsTest("full input", States::fullInput).all();
        new RefusedCallsTest("large input", States::largeInput).all();
        new RefusedCallsTest("broken input", States::brokenInput).all();
        new RefusedCallsTest("printed leaf", States::printedLeaf).all();
        check.end("RefusedCallsTest");
    }

    /** The states are at the edges that they are made for. */
    private static void states() {
        ExpressionPrinter x = States.busy();
        check.due("busy: stored error", x.errorKind() + "@" + x.errorPosition(), "5@3");
        check.due("busy: output", Check.output(x), "((a+b)*c)<(d<e)");
        check.due("busy: nodes", x.nodeCount(), 10);
        check.due("busy: input", x.parse(), 13);
        check.due("sixteen operators", States.sixteenOperators().operatorCount(), 16);
        check.due("sixteen operators: output", Check.output(States.sixteenOperators()), "aA(H((bE)Bc))");
        x = States.hundredNodes();
        check.due("hundred nodes", x.nodeCount(), 100);
        check.due("hundred nodes: size of 38", x.size(38), 39);
        check.due("hundred nodes: size of 39", x.size(39), 40);
        check.due("hundred nodes: pairs", x.bracketPairs(), 38);
        check.due("hundred nodes: parse", x.parse(), -6);
        check.due("ninety-nine nodes", States.nodes(99).nodeCount(), 99);
        check.due("full input", States.fullInput().parse(), 39);
        check.due("full input: length", States.fullInput().clearInput(), 120);
        check.due("large input", States.largeInput().parse(), -7);
        check.due("broken input", States.brokenInput().parse(), -12);
    }

    private void all() {
        definitions();
        operatorSettings();
        leaves();
        unaryNodes();
        binaryNodes();
        nodeLookups();
        printing();
        input();
    }

    /** The call answers the error that is due, or no error if 0 is due; behind an error nothing has changed. */
    private void expect(String call, Probe.Call made, int error) {
        String told = name + ": " + call;
        int got = made.on(state.make());
        check.due(told, Math.min(got, 0), error);
        if (error != 0) {
            check.same(told, Probe.after(state, made), unchanged);
        }
    }

    /** The first error of those that apply, in the order of the document; 0 stands for one that does not apply. */
    private static int first(int... errors) {
        for (int error : errors) {
            if (error != 0) {
                return error;
            }
        }
        return 0;
    }

    private static int[] edges(int count) {
        List<Integer> found = new ArrayList<>(List.of(LEAST, -1, 0, count, GREATEST));
        if (count > 1) {
            found.add(count - 1);
        }
        return found.stream().mapToInt(Integer::intValue).toArray();
    }

    private boolean isOperator(int operator) {
        return operator >= 0 && operator < operators;
    }

    private boolean isInfix(int operator) {
        return isOperator(operator) && kinds[operator] == 0;
    }

    private int sizeOf(int node) {
        return noNode(node) == 0 ? sizes[node] : 0;
    }

    private int noNode(int node) {
        return node >= 0 && node < nodes ? 0 : -1;
    }

    private static int badLevel(int level) {
        return level < 1 || level > 9 ? -4 : 0;
    }

    private int taken(int symbol, boolean prefix) {
        for (int operator = 0; operator < operators; operator++) {
            if (symbols[operator] == symbol && (kinds[operator] == 1) == prefix) {
                return -5;
            }
        }
        return 0;
    }

    private void definitions() {
        for (int symbol : SIGNS) {
            boolean good = symbol >= 33 && symbol <= 126 && symbol != 40 && symbol != 41 && !(symbol >= 97 && symbol <= 122);
            for (int level : LEVELS) {
                String call = "(" + symbol + ", " + level + ")";
                int early = first(good ? 0 : -3, badLevel(level));
                int full = operators == 16 ? -6 : 0;
                expect("defineInfix" + call, x -> x.defineInfix(symbol, level), first(early, taken(symbol, false), full));
                expect("definePrefix" + call, x -> x.definePrefix(symbol, level), first(early, taken(symbol, true), full));
                expect("definePostfix" + call, x -> x.definePostfix(symbol, level), first(early, taken(symbol, false), full));
            }
        }
    }

    private void operatorSettings() {
        for (int operator : edges(operators)) {
            int error = isOperator(operator) ? 0 : -2;
            expect("symbol(" + operator + ")", x -> x.symbol(operator), error);
            expect("kind(" + operator + ")", x -> x.kind(operator), error);
            for (int level : LEVELS) {
                expect("setLevel(" + operator + ", " + level + ")", x -> x.setLevel(operator, level), first(error, badLevel(level)));
            }
            for (int inner : edges(operators)) {
                int pairError = isOperator(inner) ? error : -2;
                String call = "setForbidden(" + operator + ", " + inner + ", ";
                expect(call + "true)", x -> x.setForbidden(operator, inner, true), pairError);
                expect(call + "false)", x -> x.setForbidden(operator, inner, false), pairError);
            }
        }
        int[] associativities = {LEAST, -1, 0, 1, 2, 3, GREATEST};
        for (int level : LEVELS) {
            for (int value : associativities) {
                int error = first(badLevel(level), value < 0 || value > 2 ? -4 : 0);
                expect("setAssociativity(" + level + ", " + value + ")", x -> x.setAssociativity(level, value), error);
            }
        }
    }

    private void leaves() {
        for (int letter : SIGNS) {
            int error = first(letter < 97 || letter > 122 ? -3 : 0, nodes == 100 ? -6 : 0);
            expect("leaf(" + letter + ")", x -> x.leaf(letter), error);
        }
    }

    /** An operator of each kind that there is, and indices where there is none. */
    private int[] someOperators() {
        List<Integer> found = new ArrayList<>(List.of(LEAST, -1, operators, GREATEST));
        for (int kind = 0; kind < 3; kind++) {
            for (int operator = 0; operator < operators; operator++) {
                if (kinds[operator] == kind) {
                    found.add(operator);
                    break;
                }
            }
        }
        return found.stream().mapToInt(Integer::intValue).toArray();
    }

    /** Nodes at the edges, and one of size 39 and 40 where there are such. */
    private int[] someNodes() {
        List<Integer> found = new ArrayList<>();
        for (int node : edges(nodes)) {
            found.add(node);
        }
        for (int node = 0; node < Math.min(nodes, 40); node++) {
            if (sizes[node] >= 39) {
                found.add(node);
            }
        }
        return found.stream().mapToInt(Integer::intValue).toArray();
    }

    private int tooLargeOrMany(int size) {
        return first(size > 40 ? -7 : 0, nodes == 100 ? -6 : 0);
    }

    private void unaryNodes() {
        for (int operator : someOperators()) {
            for (int operand : someNodes()) {
                int error = first(isOperator(operator) ? 0 : -2, isInfix(operator) ? -8 : 0, noNode(operand),
                        tooLargeOrMany(1 + sizeOf(operand)));
                expect("unary(" + operator + ", " + operand + ")", x -> x.unary(operator, operand), error);
            }
        }
    }

    private void binaryNodes() {
        for (int operator : someOperators()) {
            for (int left : someNodes()) {
                for (int right : someNodes()) {
                    int error = first(isOperator(operator) ? 0 : -2, isInfix(operator) ? 0 : -8, noNode(left), noNode(right),
                            tooLargeOrMany(1 + sizeOf(left) + sizeOf(right)));
                    expect("binary(" + operator + ", " + left + ", " + right + ")", x -> x.binary(operator, left, right), error);
                }
            }
        }
    }

    private void nodeLookups() {
        int[] indices = {LEAST, -1, 0, 1, 2, GREATEST};
        for (int node : edges(nodes)) {
            boolean leaf = sizeOf(node) == 1;
            int operands = leaf ? 0 : isInfix(state.make().operatorOf(node)) ? 2 : 1;
            expect("operatorOf(" + node + ")", x -> x.operatorOf(node), first(noNode(node), leaf ? -10 : 0));
            expect("letterOf(" + node + ")", x -> x.letterOf(node), first(noNode(node), leaf ? 0 : -10));
            expect("size(" + node + ")", x -> x.size(node), noNode(node));
            for (int index : indices) {
                int error = first(noNode(node), index < 0 || index >= operands ? -10 : 0);
                expect("operand(" + node + ", " + index + ")", x -> x.operand(node, index), error);
            }
            for (int other : edges(nodes)) {
                expect("areEqual(" + node + ", " + other + ")", x -> x.areEqual(node, other), first(noNode(node), noNode(other)));
            }
        }
    }

    private void printing() {
        for (int node : edges(nodes)) {
            expect("print(" + node + ")", x -> x.print(node), noNode(node));
            expect("printFull(" + node + ")", x -> x.printFull(node), noNode(node));
        }
        int length = output.length();
        for (int position : edges(length)) {
            expect("outputAt(" + position + ")", x -> x.outputAt(position), position >= 0 && position < length ? 0 : -9);
        }
        for (int pair : edges(pairs)) {
            int error = first(length == 0 ? -11 : 0, pair < 0 || pair >= pairs ? -9 : 0);
            expect("readWithout(" + pair + ")", x -> x.readWithout(pair), error);
        }
    }

    private void input() {
        int length = state.make().clearInput();
        for (int sign : SIGNS) {
            expect("append(" + sign + ")", x -> x.append(sign), first(sign < 33 || sign > 126 ? -3 : 0, length == 120 ? -7 : 0));
        }
        int answer = state.make().parse();
        check.due(name + ": parse is one of its answers", answer >= 0 || answer == -12 || answer == -7 || answer == -6 ? 1 : 0, 1);
        if (answer == -7 || answer == -6) {
            expect("parse()", ExpressionPrinter::parse, answer);
        }
    }
}

import java.util.ArrayList;
import java.util.List;
import java.util.Random;

/** Random runs of calls, whose answers are compared with the model's (all promises, the grammar above all). */
public final class ModelTest {
    private static final Check check = new Check();
    private static final String SYMBOLS = "+-*/^!?~@#<>=&|$";
    /** Above this many choices, trying every bracketing takes too long. */
    private static final int MOST_CHOICES = 11;
    private static final int MOST_CALLS = 512;

    private final Random random;
    private final ExpressionPrinter printer = new ExpressionPrinter();
    private int calls = 0;
    private final Model model = new Model();
    private final List<Model.Tree> trees = new ArrayList<>();
    private String input = "";
    private String output = "";
    private Model.Tree printed = null;
    private int errorKind = ExpressionPrinter.NONE;
    private int errorPosition = ExpressionPrinter.NONE;
    private final StringBuilder story = new StringBuilder();

    private ModelTest(long seed) {
        random = new Random(seed);
        story.append("seed ").append(seed);
    }

    public static void main(String[] args) {
        int runs = args.length > 0 ? Integer.parseInt(args[0]) : 8000;
        for (int seed = 0; seed < runs && check.allRight(); seed++) {
            new ModelTest(seed).run();
        }
        check.end("ModelTest");
    }

    /** Ends a run, since what an object answers after 512 calls is free. */
    private static final class Worn extends RuntimeException {
        private static final long serialVersionUID = 1;
    }

    /** The printer, for one call. */
    private ExpressionPrinter x() {
        if (calls == MOST_CALLS) {
            throw new Worn();
        }
        calls++;
        return printer;
    }

    private String readOutput() {
        StringBuilder text = new StringBuilder();
        int sign = x().outputAt(0);
        for (int i = 1; sign >= 0; i++) {
            text.append((char) sign);
            sign = x().outputAt(i);
        }
        return text.toString();
    }

    private void due(String call, long got, long want) {
        story.append("; ").append(call);
        if (got != want) {
            check.due(story.toString(), got, want);
        } else {
            check.due("", 0, 0);
        }
    }

    private void run() {
        try {
            int first = 2 + random.nextInt(6);
            for (int i = 0; i < first; i++) {
                define();
            }
            while (check.allRight()) {
                call();
            }
        } catch (Worn worn) {
            check.due("calls of a run", calls, MOST_CALLS);
        }
    }

    private void call() {
        switch (random.nextInt(16)) {
            case 0 -> define();
            case 1 -> setLevel();
            case 2 -> setAssociativity();
            case 3 -> setForbidden();
            case 4, 5 -> leaf();
            case 6 -> unary();
            case 7, 8, 9 -> binary();
            case 10, 11 -> print();
            case 12 -> printFull();
            case 13 -> parseOutput();
            case 14 -> parseRandom();
            default -> compare();
        }
    }

    private void define() {
        int symbol = random.nextInt(30) == 0 ? random.nextInt(140) : SYMBOLS.charAt(random.nextInt(SYMBOLS.length()));
        int level = random.nextInt(30) == 0 ? random.nextInt(14) - 2 : 1 + random.nextInt(9);
        int kind = random.nextInt(3);
        int got = kind == 0 ? x().defineInfix(symbol, level) : kind == 1 ? x().definePrefix(symbol, level) : x().definePostfix(symbol, level);
        boolean badSymbol = symbol < 33 || symbol > 126 || symbol >= 'a' && symbol <= 'z' || symbol == '(' || symbol == ')';
        boolean taken = model.operators.stream().anyMatch(o -> o.symbol == symbol && (o.kind == 1) == (kind == 1));
        int count = model.operators.size();
        int want = badSymbol ? -3 : level < 1 || level > 9 ? -4 : taken ? -5 : count == 16 ? -6 : count;
        due("define" + kind + "(" + symbol + ", " + level + ")", got, want);
        if (want >= 0) {
            Model.Operator operator = new Model.Operator();
            operator.symbol = symbol;
            operator.kind = kind;
            operator.level = level;
            model.operators.add(operator);
        }
    }

    private int anyOperator() {
        int count = model.operators.size();
        return random.nextInt(40) == 0 ? random.nextInt(20) - 2 : count == 0 ? 0 : random.nextInt(count);
    }

    private boolean isOperator(int operator) {
        return operator >= 0 && operator < model.operators.size();
    }

    private int anyNode() {
        int count = trees.size();
        if (count == 0 || random.nextInt(60) == 0) {
            return random.nextInt(130) - 10;
        }
        return random.nextBoolean() ? random.nextInt(count) : count - 1 - random.nextInt(Math.min(count, 4));
    }

    private boolean isNode(int node) {
        return node >= 0 && node < trees.size();
    }

    private void setLevel() {
        int operator = anyOperator();
        int level = random.nextInt(11);
        int want = !isOperator(operator) ? -2 : level < 1 || level > 9 ? -4 : model.operators.get(operator).level;
        due("setLevel(" + operator + ", " + level + ")", x().setLevel(operator, level), want);
        if (want >= 0) {
            model.operators.get(operator).level = level;
        }
    }

    private void setAssociativity() {
        int level = random.nextInt(11);
        int associativity = random.nextInt(12) == 0 ? random.nextInt(6) - 2 : random.nextInt(3);
        boolean good = level >= 1 && level <= 9 && associativity >= 0 && associativity <= 2;
        int want = good ? model.associativity[level] : -4;
        due("setAssociativity(" + level + ", " + associativity + ")", x().setAssociativity(level, associativity), want);
        if (good) {
            model.associativity[level] = associativity;
        }
    }

    private void setForbidden() {
        int outer = anyOperator();
        int inner = anyOperator();
        boolean value = random.nextInt(3) > 0;
        int want = !isOperator(outer) || !isOperator(inner) ? -2 : model.forbidden[outer][inner] ? 1 : 0;
        due("setForbidden(" + outer + ", " + inner + ", " + value + ")", x().setForbidden(outer, inner, value), want);
        if (want >= 0) {
            model.forbidden[outer][inner] = value;
        }
    }

    private void leaf() {
        int letter = random.nextInt(30) == 0 ? random.nextInt(140) : 'a' + random.nextInt(26);
        int want = letter < 'a' || letter > 'z' ? -3 : trees.size() == 100 ? -6 : trees.size();
        due("leaf(" + letter + ")", x().leaf(letter), want);
        if (want >= 0) {
            Model.Tree tree = new Model.Tree();
            tree.letter = letter;
            trees.add(tree);
        }
    }

    private void unary() {
        int operator = anyOperator();
        int operand = anyNode();
        int want = !isOperator(operator) ? -2 : model.operators.get(operator).kind == 0 ? -8
                : !isNode(operand) ? -1 : trees.get(operand).size() + 1 > 40 ? -7 : trees.size() == 100 ? -6 : trees.size();
        due("unary(" + operator + ", " + operand + ")", x().unary(operator, operand), want);
        if (want >= 0) {
            addTree(operator, trees.get(operand));
        }
    }

    private void binary() {
        int operator = anyOperator();
        int left = anyNode();
        int right = anyNode();
        if (isOperator(operator) && model.operators.get(operator).kind != 0 && random.nextInt(10) > 0) {
            unary();
            return;
        }
        int want = !isOperator(operator) ? -2 : model.operators.get(operator).kind != 0 ? -8
                : !isNode(left) || !isNode(right) ? -1
                : trees.get(left).size() + trees.get(right).size() + 1 > 40 ? -7 : trees.size() == 100 ? -6 : trees.size();
        due("binary(" + operator + ", " + left + ", " + right + ")", x().binary(operator, left, right), want);
        if (want >= 0) {
            addTree(operator, trees.get(left), trees.get(right));
        }
    }

    private void addTree(int operator, Model.Tree... operands) {
        Model.Tree tree = new Model.Tree();
        tree.operator = model.operators.get(operator);
        tree.operands.addAll(List.of(operands));
        trees.add(tree);
    }

    private void print() {
        int node = anyNode();
        int got = x().print(node);
        if (!isNode(node)) {
            due("print(" + node + ")", got, -1);
            return;
        }
        printed = trees.get(node);
        output = readOutput();
        due("print(" + node + ")", got, output.length());
        due("text " + output + " is read back", model.readsAs(output, printed) ? 1 : 0, 1);
        if (model.choices(printed) <= MOST_CHOICES) {
            check.due(story.toString(), output, model.fewest(printed));
        }
        int pairs = comparePairs();
        for (int pair = 0; pair < pairs; pair++) {
            due("pair " + pair + " is needed", readWithout(pair, pairs) == ExpressionPrinter.SAME_TREE ? 1 : 0, 0);
        }
    }

    private void printFull() {
        int node = anyNode();
        int got = x().printFull(node);
        if (!isNode(node)) {
            due("printFull(" + node + ")", got, -1);
            return;
        }
        printed = trees.get(node);
        output = model.full(printed);
        due("printFull(" + node + ")", got, output.length());
        check.due(story + "; output", readOutput(), output);
        comparePairs();
    }

    private int comparePairs() {
        int pairs = (int) output.chars().filter(c -> c == '(').count();
        due("bracketPairs", x().bracketPairs(), pairs);
        for (int pair = -1; pair <= pairs; pair++) {
            due("readWithout(" + pair + ")", x().readWithout(pair), readWithout(pair, pairs));
        }
        return pairs;
    }

    private int readWithout(int pair, int pairs) {
        if (printed == null) {
            return -11;
        }
        if (pair < 0 || pair >= pairs) {
            return -9;
        }
        try {
            return model.read(Model.without(output, pair)).equalTo(printed) ? 0 : 1;
        } catch (Model.Fault fault) {
            return 2;
        }
    }

    private void parseOutput() {
        due("copyOutput", x().copyOutput(), output.length());
        input = output;
        parse();
    }

    /** Mostly readable: operands and operators in turns, and now and then something else. */
    private void parseRandom() {
        due("clearInput", x().clearInput(), input.length());
        int most = random.nextInt(12) == 0 ? 130 : 16;
        StringBuilder text = new StringBuilder();
        appendExpression(text, random.nextInt(most), random.nextInt(4) == 0);
        input = "";
        for (int i = 0; i < text.length(); i++) {
            int want = input.length() == 120 ? -7 : input.length() + 1;
            due("append(" + (int) text.charAt(i) + ")", x().append(text.charAt(i)), want);
            if (want >= 0) {
                input += text.charAt(i);
            }
        }
        parse();
    }

    private void appendExpression(StringBuilder text, int most, boolean broken) {
        int open = 0;
        boolean operand = true;
        while (text.length() < most || operand) {
            if (broken && random.nextInt(8) == 0) {
                text.append((char) (33 + random.nextInt(94)));
            }
            int choice = random.nextInt(6);
            if (operand && choice == 0 && text.length() < most) {
                text.append('(');
                open++;
            } else if (operand && choice == 1 && text.length() < most) {
                appendSymbol(text, 1);
            } else if (operand) {
                text.append((char) ('a' + random.nextInt(26)));
                operand = false;
            } else if (choice == 0 && open > 0) {
                text.append(')');
                open--;
            } else if (choice == 1) {
                appendSymbol(text, 2);
            } else {
                operand = appendSymbol(text, 0);
                if (!operand) {
                    break;
                }
            }
        }
        text.append(")".repeat(broken ? random.nextInt(open + 2) : open));
    }

    private boolean appendSymbol(StringBuilder text, int kind) {
        List<Model.Operator> fitting = model.operators.stream().filter(o -> o.kind == kind).toList();
        if (fitting.isEmpty()) {
            return false;
        }
        text.append((char) fitting.get(random.nextInt(fitting.size())).symbol);
        return true;
    }

    private void parse() {
        int want;
        try {
            model.read(input);
            int size = model.completed.size();
            want = size > 40 ? -7 : trees.size() + size > 100 ? -6 : trees.size() + size - 1;
            if (want >= 0) {
                trees.addAll(model.completed);
            }
        } catch (Model.Fault fault) {
            want = -12;
            errorKind = fault.kind;
            errorPosition = fault.position;
        }
        due("parse of " + input, x().parse(), want);
        due("errorKind", x().errorKind(), errorKind);
        due("errorPosition", x().errorPosition(), errorPosition);
    }

    private void compare() {
        due("operatorCount", x().operatorCount(), model.operators.size());
        due("nodeCount", x().nodeCount(), trees.size());
        int one = anyNode();
        int other = anyNode();
        boolean both = isNode(one) && isNode(other);
        due("areEqual(" + one + ", " + other + ")", x().areEqual(one, other), !both ? -1 : trees.get(one).equalTo(trees.get(other)) ? 1 : 0);
        for (int i = 0; i < Math.min(trees.size(), 3); i++) {
            int node = random.nextInt(trees.size());
            Model.Tree tree = trees.get(node);
            due("size(" + node + ")", x().size(node), tree.size());
            due("letterOf(" + node + ")", x().letterOf(node), tree.operator == null ? tree.letter : -10);
            due("operatorOf(" + node + ")", x().operatorOf(node), tree.operator == null ? -10 : model.operators.indexOf(tree.operator));
            for (int index = -1; index <= 2; index++) {
                boolean there = index >= 0 && index < tree.operands.size();
                int operand = x().operand(node, index);
                boolean right = there ? isNode(operand) && trees.get(operand) == tree.operands.get(index) : operand == -10;
                due("operand(" + node + ", " + index + ")", right ? 1 : 0, 1);
            }
        }
    }
}

import java.util.Arrays;
import java.util.List;
import java.util.Random;

/**
 * FEWEST BRACKETS in trees of up to size 40, whose bracketings are too many to try them all. They are
 * tried from the fewest pairs upwards, the preferred one first, up to the first valid one.
 */
public final class LargeTreesTest {
    private static final Check check = new Check();
    private static final String SYMBOLS = "+-*/^!?~@#<>";
    private static final int LEAST_SIZE = 16;
    private static final int MOST_CHARACTERS = 120;

    private final Random random;
    private final ExpressionPrinter x = new ExpressionPrinter();
    private final Model model = new Model();
    private String input;
    private Model.Tree tree;
    private boolean[] brackets;
    /** How many bracketings may still be tried. */
    private int patience;

    private LargeTreesTest(long seed, int patience) {
        random = new Random(seed);
        this.patience = patience;
    }

    public static void main(String[] args) {
        int runs = args.length > 0 ? Integer.parseInt(args[0]) : 1500;
        int patience = args.length > 1 ? Integer.parseInt(args[1]) : 3000;
        int[] found = new int[40];
        for (int seed = 0; seed < runs && check.allRight(); seed++) {
            int pairs = new LargeTreesTest(seed, patience).run();
            if (pairs >= 0) {
                found[pairs]++;
            }
        }
        System.out.println("large trees by their pairs: " + Arrays.toString(found));
        check.due("large trees without a pair, and with three", found[0] > 0 && found[3] > 0 ? 1 : 0, 1);
        check.end("LargeTreesTest");
    }

    /** Returns the number of pairs that were needed, or -1 if no tree was compared. */
    private int run() {
        defineOperators();
        input = randomText();
        if (input.length() > MOST_CHARACTERS) {
            return -1;
        }
        int root = Check.parsed(x, input);
        if (root < 0 || x.size(root) < LEAST_SIZE) {
            return -1;
        }
        readAgain();
        changeOperators();
        String text = Check.printed(x, root);
        String best = fewest();
        if (best == null) {
            return -1;
        }
        check.due("fewest brackets of " + model.full(tree), text, best);
        return (int) best.chars().filter(sign -> sign == '(').count();
    }

    private void defineOperators() {
        int count = 3 + random.nextInt(6);
        for (int i = 0; i < count; i++) {
            int kind = i == 0 ? 0 : random.nextInt(3);
            int level = 1 + random.nextInt(9);
            char symbol = SYMBOLS.charAt(i);
            int index = kind == 0 ? x.defineInfix(symbol, level) : kind == 1 ? x.definePrefix(symbol, level) : x.definePostfix(symbol, level);
            Model.Operator operator = new Model.Operator();
            operator.symbol = symbol;
            operator.kind = kind;
            operator.level = level;
            model.operators.add(operator);
            check.due("index", index, i);
        }
        for (int level = 1; level <= 9; level++) {
            model.associativity[level] = random.nextInt(2);
            x.setAssociativity(level, model.associativity[level]);
        }
    }

    /** Can always be read, since no level is without associativity yet and no pair forbidden. */
    private String randomText() {
        StringBuilder text = new StringBuilder();
        int nodes = 0;
        int open = 0;
        int most = LEAST_SIZE + random.nextInt(40 - LEAST_SIZE);
        int often = 4 + random.nextInt(12);
        for (boolean operand = true; nodes < most || operand;) {
            if (operand && nodes < most && random.nextInt(often) == 0) {
                text.append('(');
                open++;
            } else if (operand && nodes < most && random.nextInt(4) == 0) {
                nodes += appendSymbol(text, 1);
            } else if (operand) {
                text.append((char) ('a' + random.nextInt(26)));
                nodes++;
                operand = false;
            } else if (open > 0 && random.nextInt(5) == 0) {
                text.append(')');
                open--;
            } else if (random.nextInt(4) == 0) {
                nodes += appendSymbol(text, 2);
            } else {
                nodes += appendSymbol(text, 0);
                operand = true;
            }
        }
        return text.append(")".repeat(open)).toString();
    }

    private int appendSymbol(StringBuilder text, int kind) {
        List<Model.Operator> fitting = model.operators.stream().filter(o -> o.kind == kind).toList();
        if (fitting.isEmpty()) {
            return 0;
        }
        text.append((char) fitting.get(random.nextInt(fitting.size())).symbol);
        return 1;
    }

    private void readAgain() {
        try {
            tree = model.read(input);
        } catch (Model.Fault fault) {
            throw new IllegalStateException(input);
        }
    }

    /** So that the tree needs other pairs than the text had from which it was made. */
    private void changeOperators() {
        int changes = random.nextInt(4);
        for (int i = 0; i < changes; i++) {
            int operator = random.nextInt(model.operators.size());
            int other = random.nextInt(model.operators.size());
            int level = 1 + random.nextInt(9);
            switch (random.nextInt(3)) {
                case 0 -> {
                    model.operators.get(operator).level = level;
                    x.setLevel(operator, level);
                }
                case 1 -> {
                    level = model.operators.get(operator).level;
                    model.associativity[level] = random.nextInt(3);
                    x.setAssociativity(level, model.associativity[level]);
                }
                default -> {
                    model.forbidden[operator][other] = true;
                    x.setForbidden(operator, other, true);
                }
            }
        }
    }

    /** The text that is due, or null if it would take too long to find. */
    private String fewest() {
        int choices = model.choices(tree);
        brackets = new boolean[choices];
        for (int pairs = 0; pairs <= choices && patience > 0; pairs++) {
            String text = preferred(0, pairs);
            if (text != null) {
                return text;
            }
        }
        return null;
    }

    /** The preferred valid text with that many pairs at the occurrences from the first on, or null. */
    private String preferred(int first, int pairs) {
        if (patience <= 0 || pairs > brackets.length - first) {
            return null;
        }
        if (pairs == 0) {
            patience--;
            String text = model.write(tree, brackets);
            return model.readsAs(text, tree) ? text : null;
        }
        String text = preferred(first + 1, pairs);
        if (text == null) {
            brackets[first] = true;
            text = preferred(first + 1, pairs - 1);
            brackets[first] = false;
        }
        return text;
    }
}

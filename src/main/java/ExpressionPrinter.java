/**
 * A printer that writes expression trees with the fewest brackets, and an operator-precedence
 * (Pratt) parser that reads them back. The caller defines the operators and their levels.
 */
public final class ExpressionPrinter {
    public static final int NO_SUCH_NODE = -1, NO_SUCH_OPERATOR = -2, BAD_SYMBOL = -3, BAD_VALUE = -4, ALREADY_DEFINED = -5, TOO_MANY = -6, TOO_LARGE = -7, WRONG_KIND = -8, NO_SUCH_INDEX = -9, NONE = -10, NO_TEXT = -11, PARSE_ERROR = -12;
    public static final int INFIX = 0, PREFIX = 1, POSTFIX = 2;
    public static final int LEFT = 0, RIGHT = 1, NO_ASSOCIATIVITY = 2;
    public static final int EXPECTED_OPERAND = 1, EXPECTED_OPERATOR = 2, EXPECTED_CLOSE = 3, UNEXPECTED_CLOSE = 4, NOT_ASSOCIATIVE = 5, FORBIDDEN_PAIR = 6;
    public static final int SAME_TREE = 0, OTHER_TREE = 1, UNREADABLE = 2;

    private static final int MAX_OPERATORS = 16;
    private static final int MAX_LEVEL = 9;
    private static final int MAX_NODES = 100;
    private static final int MAX_SIZE = 40;
    private static final int MAX_TEXT = 120;

    private static final int FIRST_SIGN = 33;
    private static final int LAST_SIGN = 126;
    private static final int FIRST_LETTER = 97;
    private static final int LAST_LETTER = 122;
    private static final int OPEN = 40;
    private static final int CLOSE = 41;

    /** Stands for an operator, a node or a character that is not there. */
    private static final int ABSENT = -1;

    private final OperatorTable operators;
    private final NodeTable nodes;
    /** The tree of the latest text that was read; parse copies it, readWithout only compares it. */
    private final NodeTable readNodes;
    private final Reader reader;
    private final Writer writer;
    private final Text input;
    private final Text output;
    /** What the reader reads: a copy, so that reading never touches the input or the output. */
    private final Text readText;
    private int printedRoot;
    private int latestErrorKind;
    private int latestErrorPosition;

    public ExpressionPrinter() {
        operators = new OperatorTable();
        nodes = new NodeTable();
        readNodes = new NodeTable();
        input = new Text();
        output = new Text();
        readText = new Text();
        reader = new Reader(operators, readNodes, readText);
        writer = new Writer(operators, nodes, output);
        printedRoot = ABSENT;
        latestErrorKind = NONE;
        latestErrorPosition = NONE;
    }

    // ---- operators

    public int defineInfix(int symbol, int level) {
        return defineOperator(symbol, INFIX, level);
    }

    public int definePrefix(int symbol, int level) {
        return defineOperator(symbol, PREFIX, level);
    }

    public int definePostfix(int symbol, int level) {
        return defineOperator(symbol, POSTFIX, level);
    }

    private int defineOperator(int symbol, int kind, int level) {
        if (!canBeSymbol(symbol)) {
            return BAD_SYMBOL;
        }
        if (!isLevel(level)) {
            return BAD_VALUE;
        }
        if (operators.find(symbol, kind == PREFIX) != ABSENT) {
            return ALREADY_DEFINED;
        }
        int operator = operators.add(symbol, kind, level);
        return operator == ABSENT ? TOO_MANY : operator;
    }

    public int operatorCount() {
        return operators.count();
    }

    public int symbol(int operator) {
        return operators.has(operator) ? operators.symbolAt(operator) : NO_SUCH_OPERATOR;
    }

    public int kind(int operator) {
        return operators.has(operator) ? operators.kindAt(operator) : NO_SUCH_OPERATOR;
    }

    public int setLevel(int operator, int level) {
        if (!operators.has(operator)) {
            return NO_SUCH_OPERATOR;
        }
        if (!isLevel(level)) {
            return BAD_VALUE;
        }
        return operators.replaceLevel(operator, level);
    }

    public int setAssociativity(int level, int associativity) {
        if (!isLevel(level) || associativity < LEFT || associativity > NO_ASSOCIATIVITY) {
            return BAD_VALUE;
        }
        return operators.replaceAssociativity(level, associativity);
    }

    public int setForbidden(int outer, int inner, boolean forbidden) {
        if (!operators.has(outer) || !operators.has(inner)) {
            return NO_SUCH_OPERATOR;
        }
        return operators.replaceForbidden(outer, inner, forbidden) ? 1 : 0;
    }

    // ---- trees

    public int leaf(int letter) {
        if (!isLetter(letter)) {
            return BAD_SYMBOL;
        }
        if (nodes.count() >= MAX_NODES) {
            return TOO_MANY;
        }
        return nodes.add(ABSENT, letter, ABSENT, ABSENT);
    }

    public int unary(int operator, int operand) {
        if (!operators.has(operator)) {
            return NO_SUCH_OPERATOR;
        }
        int kind = operators.kindAt(operator);
        if (kind == INFIX) {
            return WRONG_KIND;
        }
        if (!nodes.has(operand)) {
            return NO_SUCH_NODE;
        }
        return kind == PREFIX
                ? addOperatorNode(operator, ABSENT, operand)
                : addOperatorNode(operator, operand, ABSENT);
    }

    public int binary(int operator, int left, int right) {
        if (!operators.has(operator)) {
            return NO_SUCH_OPERATOR;
        }
        if (operators.kindAt(operator) != INFIX) {
            return WRONG_KIND;
        }
        if (!nodes.has(left) || !nodes.has(right)) {
            return NO_SUCH_NODE;
        }
        return addOperatorNode(operator, left, right);
    }

    private int addOperatorNode(int operator, int before, int after) {
        if (1 + nodes.sizeAt(before) + nodes.sizeAt(after) > MAX_SIZE) {
            return TOO_LARGE;
        }
        if (nodes.count() >= MAX_NODES) {
            return TOO_MANY;
        }
        return nodes.add(operator, ABSENT, before, after);
    }

    public int nodeCount() {
        return nodes.count();
    }

    public int operatorOf(int node) {
        if (!nodes.has(node)) {
            return NO_SUCH_NODE;
        }
        int operator = nodes.operatorAt(node);
        return operator == ABSENT ? NONE : operator;
    }

    public int letterOf(int node) {
        if (!nodes.has(node)) {
            return NO_SUCH_NODE;
        }
        int letter = nodes.letterAt(node);
        return letter == ABSENT ? NONE : letter;
    }

    public int operand(int node, int index) {
        if (!nodes.has(node)) {
            return NO_SUCH_NODE;
        }
        int found = nodes.operandAt(node, index);
        return found == ABSENT ? NONE : found;
    }

    public int size(int node) {
        return nodes.has(node) ? nodes.sizeAt(node) : NO_SUCH_NODE;
    }

    public int areEqual(int one, int other) {
        if (!nodes.has(one) || !nodes.has(other)) {
            return NO_SUCH_NODE;
        }
        return sameTree(nodes, one, nodes, other, 0) ? 1 : 0;
    }

    private static boolean sameTree(NodeTable ones, int one, NodeTable others, int other, int depth) {
        if (one == ABSENT || other == ABSENT) {
            return one == other;
        }
        if (depth >= MAX_SIZE
                || ones.operatorAt(one) != others.operatorAt(other)
                || ones.letterAt(one) != others.letterAt(other)) {
            return false;
        }
        return sameTree(ones, ones.beforeAt(one), others, others.beforeAt(other), depth + 1)
                && sameTree(ones, ones.afterAt(one), others, others.afterAt(other), depth + 1);
    }

    // ---- printing

    public int print(int node) {
        return writeTree(node, false);
    }

    public int printFull(int node) {
        return writeTree(node, true);
    }

    private int writeTree(int node, boolean everyBracket) {
        if (!nodes.has(node)) {
            return NO_SUCH_NODE;
        }
        writer.writeAll(node, everyBracket);
        printedRoot = node;
        return output.length();
    }

    public int outputAt(int position) {
        int sign = output.at(position);
        return sign == ABSENT ? NO_SUCH_INDEX : sign;
    }

    public int bracketPairs() {
        return output.countPairs();
    }

    public int readWithout(int pair) {
        if (printedRoot == ABSENT) {
            return NO_TEXT;
        }
        if (pair < 0 || pair >= output.countPairs()) {
            return NO_SUCH_INDEX;
        }
        readText.copyWithoutPair(output, pair);
        if (!reader.reads()) {
            return UNREADABLE;
        }
        return sameTree(readNodes, readNodes.last(), nodes, printedRoot, 0) ? SAME_TREE : OTHER_TREE;
    }

    // ---- parsing

    public int append(int character) {
        if (character < FIRST_SIGN || character > LAST_SIGN) {
            return BAD_SYMBOL;
        }
        return input.put(character) ? input.length() : TOO_LARGE;
    }

    public int copyOutput() {
        input.copyFrom(output);
        return input.length();
    }

    public int clearInput() {
        int removed = input.length();
        input.empty();
        return removed;
    }

    public int parse() {
        readText.copyFrom(input);
        if (!reader.reads()) {
            latestErrorKind = reader.faultKind();
            latestErrorPosition = reader.faultPosition();
            return PARSE_ERROR;
        }
        if (readNodes.count() > MAX_SIZE) {
            return TOO_LARGE;
        }
        if (nodes.count() + readNodes.count() > MAX_NODES) {
            return TOO_MANY;
        }
        nodes.addAllOf(readNodes);
        return nodes.last();
    }

    public int errorKind() {
        return latestErrorKind;
    }

    public int errorPosition() {
        return latestErrorPosition;
    }

    // ---- characters and levels

    private static boolean isLetter(int sign) {
        return sign >= FIRST_LETTER && sign <= LAST_LETTER;
    }

    private static boolean canBeSymbol(int sign) {
        return sign >= FIRST_SIGN && sign <= LAST_SIGN && !isLetter(sign) && sign != OPEN && sign != CLOSE;
    }

    private static boolean isLevel(int level) {
        return level >= 1 && level <= MAX_LEVEL;
    }

    /** The operators, the associativities of the levels and the forbidden pairs. */
    private static final class OperatorTable {
        private final int[] symbols = new int[MAX_OPERATORS];
        private final int[] kinds = new int[MAX_OPERATORS];
        private final int[] levels = new int[MAX_OPERATORS];
        private final int[] associativities = new int[MAX_LEVEL + 1];
        private final boolean[] forbiddenPairs = new boolean[MAX_OPERATORS * MAX_OPERATORS];
        private int count;

        int count() {
            return count;
        }

        boolean has(int operator) {
            return operator >= 0 && operator < count;
        }

        /** Returns the index of the new operator, or ABSENT if there is no room for it. */
        int add(int symbol, int kind, int level) {
            if (count >= MAX_OPERATORS) {
                return ABSENT;
            }
            symbols[count] = symbol;
            kinds[count] = kind;
            levels[count] = level;
            count++;
            return count - 1;
        }

        /** A symbol may belong to two operators: a prefix one, and one that follows an operand. */
        int find(int symbol, boolean prefix) {
            for (int operator = 0; operator < count; operator++) {
                if (symbols[operator] == symbol && (kinds[operator] == PREFIX) == prefix) {
                    return operator;
                }
            }
            return ABSENT;
        }

        int symbolAt(int operator) {
            return has(operator) ? symbols[operator] : ABSENT;
        }

        int kindAt(int operator) {
            return has(operator) ? kinds[operator] : ABSENT;
        }

        int levelAt(int operator) {
            return has(operator) ? levels[operator] : 0;
        }

        int replaceLevel(int operator, int level) {
            int previous = levelAt(operator);
            if (has(operator)) {
                levels[operator] = level;
            }
            return previous;
        }

        private int associativityAt(int level) {
            return isLevel(level) ? associativities[level] : LEFT;
        }

        int replaceAssociativity(int level, int associativity) {
            int previous = associativityAt(level);
            if (isLevel(level)) {
                associativities[level] = associativity;
            }
            return previous;
        }

        boolean isForbidden(int outer, int inner) {
            return has(outer) && has(inner) && forbiddenPairs[outer * MAX_OPERATORS + inner];
        }

        boolean replaceForbidden(int outer, int inner, boolean forbidden) {
            boolean previous = isForbidden(outer, inner);
            if (has(outer) && has(inner)) {
                forbiddenPairs[outer * MAX_OPERATORS + inner] = forbidden;
            }
            return previous;
        }

        /** The least level that the operand after the symbol of a PREFIX or INFIX operator takes in. */
        int minAfter(int operator) {
            if (!has(operator)) {
                return 0;
            }
            int level = levels[operator];
            boolean rightGroups = isLevel(level) && associativities[level] == RIGHT;
            return kinds[operator] == INFIX && !rightGroups ? level + 1 : level;
        }

        /** Whether an open node of the left operator can't be the left operand of the other. */
        boolean isNotAssociative(int operator, int left) {
            int level = levelAt(operator);
            return kindAt(operator) == INFIX
                    && kindAt(left) == INFIX
                    && levelAt(left) == level
                    && associativityAt(level) == NO_ASSOCIATIVITY;
        }
    }

    /**
     * Nodes, each after its operands. An operand is held by the side of the symbol that it is
     * written on, since that side alone decides how the grammar reads it.
     */
    private static final class NodeTable {
        /** A text makes at most a node with each character, so its tree always fits. */
        private static final int ROWS = MAX_TEXT;

        private final int[] operators = new int[ROWS];
        private final int[] letters = new int[ROWS];
        private final int[] befores = new int[ROWS];
        private final int[] afters = new int[ROWS];
        private final int[] sizes = new int[ROWS];
        private int count;

        int count() {
            return count;
        }

        int last() {
            return count - 1;
        }

        boolean has(int node) {
            return node >= 0 && node < count;
        }

        void empty() {
            count = 0;
        }

        /** Returns the number of the new node, or ABSENT if there is no room for it. */
        int add(int operator, int letter, int before, int after) {
            if (count >= ROWS) {
                return ABSENT;
            }
            operators[count] = operator;
            letters[count] = letter;
            befores[count] = before;
            afters[count] = after;
            sizes[count] = 1 + sizeAt(before) + sizeAt(after);
            count++;
            return count - 1;
        }

        void addAllOf(NodeTable others) {
            int shift = count;
            for (int node = 0; node < others.count; node++) {
                add(others.operators[node], others.letters[node],
                        shifted(others.befores[node], shift), shifted(others.afters[node], shift));
            }
        }

        private static int shifted(int node, int shift) {
            return node == ABSENT ? ABSENT : node + shift;
        }

        int operatorAt(int node) {
            return has(node) ? operators[node] : ABSENT;
        }

        int letterAt(int node) {
            return has(node) ? letters[node] : ABSENT;
        }

        int beforeAt(int node) {
            return has(node) ? befores[node] : ABSENT;
        }

        int afterAt(int node) {
            return has(node) ? afters[node] : ABSENT;
        }

        /** The size of a node that is absent is 0. */
        int sizeAt(int node) {
            return has(node) ? sizes[node] : 0;
        }

        int operandAt(int node, int index) {
            int before = beforeAt(node);
            int after = afterAt(node);
            if (index == 0) {
                return before == ABSENT ? after : before;
            }
            return index == 1 && before != ABSENT ? after : ABSENT;
        }
    }

    /** A row of characters. */
    private static final class Text {
        private final int[] signs = new int[MAX_TEXT];
        private int length;

        int length() {
            return length;
        }

        void empty() {
            length = 0;
        }

        boolean put(int sign) {
            if (length >= MAX_TEXT) {
                return false;
            }
            signs[length] = sign;
            length++;
            return true;
        }

        int at(int position) {
            return position >= 0 && position < length ? signs[position] : ABSENT;
        }

        void copyFrom(Text other) {
            empty();
            for (int position = 0; position < other.length; position++) {
                put(other.signs[position]);
            }
        }

        void copyWithoutPair(Text other, int pair) {
            int open = other.openOf(pair);
            int close = other.closeOf(open);
            empty();
            for (int position = 0; position < other.length; position++) {
                if (position != open && position != close) {
                    put(other.signs[position]);
                }
            }
        }

        int countPairs() {
            int pairs = 0;
            for (int position = 0; position < length; position++) {
                if (signs[position] == OPEN) {
                    pairs++;
                }
            }
            return pairs;
        }

        private int openOf(int pair) {
            int passed = 0;
            for (int position = 0; position < length; position++) {
                if (signs[position] == OPEN) {
                    if (passed == pair) {
                        return position;
                    }
                    passed++;
                }
            }
            return ABSENT;
        }

        private int closeOf(int open) {
            int depth = 0;
            for (int position = Math.max(open, 0); position < length; position++) {
                if (signs[position] == OPEN) {
                    depth++;
                } else if (signs[position] == CLOSE) {
                    depth--;
                    if (depth == 0) {
                        return position;
                    }
                }
            }
            return ABSENT;
        }
    }

    /**
     * The grammar. The calls of parseExpression that stand open are kept as frames in rows, not as
     * Java calls, since a text of brackets nests as deep as it is long.
     */
    private static final class Reader {
        /** A step takes a character or ends a frame, and a character opens at most one frame. */
        private static final int MAX_STEPS = 2 * MAX_TEXT + 2;

        private final OperatorTable operators;
        private final NodeTable nodes;
        private final Text text;
        /** The operator whose operand the frame reads, or ABSENT if the frame reads a bracket. */
        private final int[] frameOperators = new int[MAX_TEXT];
        private final int[] framePositions = new int[MAX_TEXT];
        private final int[] frameBefores = new int[MAX_TEXT];
        private int frames;
        private int position;
        private boolean needsOperand;
        private int leftSide;
        private boolean bracketed;
        private boolean finished;
        private int faultKind;
        private int faultPosition;

        Reader(OperatorTable operators, NodeTable nodes, Text text) {
            this.operators = operators;
            this.nodes = nodes;
            this.text = text;
        }

        int faultKind() {
            return faultKind;
        }

        int faultPosition() {
            return faultPosition;
        }

        /** Returns whether the text can be read; then the last of the nodes is its root. */
        boolean reads() {
            start();
            for (int step = 0; step < MAX_STEPS && !finished; step++) {
                if (needsOperand) {
                    readOperand();
                } else {
                    readOperator();
                }
            }
            return finished && faultKind == NONE;
        }

        private void start() {
            nodes.empty();
            frames = 0;
            position = 0;
            needsOperand = true;
            leftSide = ABSENT;
            bracketed = false;
            finished = false;
            faultKind = NONE;
            faultPosition = NONE;
        }

        private void readOperand() {
            int sign = text.at(position);
            int prefix = operators.find(sign, true);
            if (isLetter(sign)) {
                position++;
                takeLeftSide(nodes.add(ABSENT, sign, ABSENT, ABSENT));
            } else if (sign == OPEN || prefix != ABSENT) {
                openFrame(prefix, ABSENT);
            } else {
                fail(EXPECTED_OPERAND, position);
            }
        }

        private void readOperator() {
            int sign = text.at(position);
            if (sign == ABSENT || sign == CLOSE) {
                endFrame();
                return;
            }
            int operator = operators.find(sign, false);
            if (operator == ABSENT) {
                fail(EXPECTED_OPERATOR, position);
            } else if (operators.levelAt(operator) < frameMin()) {
                endFrame();
            } else {
                joinLeftSide(operator);
            }
        }

        /** Reads an operator that takes the left side as its operand. */
        private void joinLeftSide(int operator) {
            if (!bracketed && operators.isNotAssociative(operator, nodes.operatorAt(leftSide))) {
                fail(NOT_ASSOCIATIVE, position);
            } else if (isForbiddenUnder(operator)) {
                fail(FORBIDDEN_PAIR, position);
            } else if (operators.kindAt(operator) == POSTFIX) {
                position++;
                takeLeftSide(nodes.add(operator, ABSENT, leftSide, ABSENT));
            } else {
                openFrame(operator, leftSide);
            }
        }

        private void openFrame(int operator, int before) {
            if (frames < MAX_TEXT) {
                frameOperators[frames] = operator;
                framePositions[frames] = position;
                frameBefores[frames] = before;
                frames++;
            }
            position++;
            needsOperand = true;
        }

        private int topFrame() {
            return frames > 0 && frames <= MAX_TEXT ? frames - 1 : ABSENT;
        }

        private int frameMin() {
            int top = topFrame();
            return top == ABSENT ? 0 : operators.minAfter(frameOperators[top]);
        }

        private void endFrame() {
            int top = topFrame();
            if (top == ABSENT) {
                endText();
            } else if (frameOperators[top] == ABSENT) {
                endBracket();
            } else {
                completeNode(top);
            }
        }

        private void endText() {
            if (text.at(position) == CLOSE) {
                fail(UNEXPECTED_CLOSE, position);
            }
            finished = true;
        }

        private void endBracket() {
            if (text.at(position) == CLOSE) {
                position++;
                frames--;
                bracketed = true;
            } else {
                fail(EXPECTED_CLOSE, position);
            }
        }

        private void completeNode(int top) {
            int operator = frameOperators[top];
            if (isForbiddenUnder(operator)) {
                fail(FORBIDDEN_PAIR, framePositions[top]);
                return;
            }
            frames--;
            takeLeftSide(nodes.add(operator, ABSENT, frameBefores[top], leftSide));
        }

        private boolean isForbiddenUnder(int operator) {
            return !bracketed && operators.isForbidden(operator, nodes.operatorAt(leftSide));
        }

        private void takeLeftSide(int node) {
            leftSide = node;
            bracketed = false;
            needsOperand = false;
        }

        private void fail(int kind, int place) {
            faultKind = kind;
            faultPosition = place;
            finished = true;
        }
    }

    /**
     * Writes trees. Whether a node can stand without brackets depends only on the least level that
     * the frame around it takes in (min), and on the level of the operator that follows its text
     * (next; 0 at the end and before a closing bracket): the node's own symbol must be taken by
     * that frame, and the following symbol by none of the frames that the node opens at its end.
     * So the fewest pairs of the two sides of a symbol are found apart from one another.
     */
    private static final class Writer {
        /** More pairs than any tree can have. */
        private static final int IMPOSSIBLE = 1000;
        /** Marks a node whose pairs have to be counted; the count then takes the mark's place. */
        private static final int NEEDED = -1;

        private final OperatorTable operators;
        private final NodeTable nodes;
        private final Text output;
        /**
         * The fewest pairs inside each node of the tree, if the node is the root or is bracketed.
         * With these counted once, the pairs of a node in any other place take a step for each node in it.
         */
        private final int[] pairsInBrackets = new int[MAX_NODES];
        private boolean everyBracket;

        Writer(OperatorTable operators, NodeTable nodes, Text output) {
            this.operators = operators;
            this.nodes = nodes;
            this.output = output;
        }

        /** Replaces the output by the text of a tree. */
        void writeAll(int root, boolean withEveryBracket) {
            everyBracket = withEveryBracket;
            if (!everyBracket) {
                markNeeded(root);
                countNeeded(root);
            }
            output.empty();
            writeNode(root, 0, 0, 0);
        }

        private void markNeeded(int root) {
            mark(root);
            for (int node = Math.min(root, MAX_NODES - 1); node >= 0; node--) {
                if (pairsInBrackets[node] == NEEDED) {
                    mark(nodes.beforeAt(node));
                    mark(nodes.afterAt(node));
                }
            }
        }

        private void mark(int node) {
            if (node >= 0 && node < MAX_NODES) {
                pairsInBrackets[node] = NEEDED;
            }
        }

        /** Goes upwards, since operands have smaller numbers than their nodes. */
        private void countNeeded(int root) {
            for (int node = 0; node <= root && node < MAX_NODES; node++) {
                if (pairsInBrackets[node] == NEEDED) {
                    pairsInBrackets[node] = pairsInside(node, 0, 0, 0);
                }
            }
        }

        /** The fewest pairs inside a node that is not bracketed, or IMPOSSIBLE. */
        private int pairsInside(int node, int min, int next, int depth) {
            int operator = nodes.operatorAt(node);
            if (operator == ABSENT) {
                return 0;
            }
            if (depth >= MAX_SIZE || !isReadWhole(operator, min, next)) {
                return IMPOSSIBLE;
            }
            return pairsOfOperand(operator, nodes.beforeAt(node), min, operators.levelAt(operator), depth + 1)
                    + pairsOfOperand(operator, nodes.afterAt(node), operators.minAfter(operator), next, depth + 1);
        }

        private boolean isReadWhole(int operator, int min, int next) {
            int kind = operators.kindAt(operator);
            boolean taken = kind == PREFIX || operators.levelAt(operator) >= min;
            boolean endsBeforeNext = kind == POSTFIX || operators.minAfter(operator) > next;
            return taken && endsBeforeNext;
        }

        private int pairsOfOperand(int outer, int node, int min, int next, int depth) {
            if (nodes.operatorAt(node) == ABSENT) {
                return 0;
            }
            return Math.min(pairsIfOpen(outer, node, min, next, depth), pairsIfBracketed(node));
        }

        private int pairsIfBracketed(int node) {
            return node >= 0 && node < MAX_NODES ? 1 + pairsInBrackets[node] : IMPOSSIBLE;
        }

        private int pairsIfOpen(int outer, int node, int min, int next, int depth) {
            int inner = nodes.operatorAt(node);
            // On the right side of an operator that is not associative the level forbids it anyway.
            if (operators.isForbidden(outer, inner) || operators.isNotAssociative(outer, inner)) {
                return IMPOSSIBLE;
            }
            return pairsInside(node, min, next, depth);
        }

        private void writeNode(int node, int min, int next, int depth) {
            if (depth >= MAX_SIZE) {
                return;
            }
            int operator = nodes.operatorAt(node);
            if (operator == ABSENT) {
                output.put(nodes.letterAt(node));
                return;
            }
            writeOperand(operator, nodes.beforeAt(node), min, operators.levelAt(operator), depth + 1);
            output.put(operators.symbolAt(operator));
            writeOperand(operator, nodes.afterAt(node), operators.minAfter(operator), next, depth + 1);
        }

        private void writeOperand(int outer, int node, int min, int next, int depth) {
            if (node == ABSENT) {
                return;
            }
            // Of two ways with as few pairs, the one without these brackets is preferred.
            boolean needsBrackets = nodes.operatorAt(node) != ABSENT
                    && (everyBracket || pairsIfOpen(outer, node, min, next, depth) > pairsIfBracketed(node));
            if (needsBrackets) {
                output.put(OPEN);
                writeNode(node, 0, 0, depth);
                output.put(CLOSE);
            } else {
                writeNode(node, min, next, depth);
            }
        }
    }
}

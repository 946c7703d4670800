import java.util.Arrays;

/**
 * A maker of code generators: from rules that say how parts of an expression tree can be covered
 * and at what cost it works out the states of all trees; it covers a tree at the least cost, writes
 * the code of the cover, gives its values places in few registers and in slots, and runs it.
 */
public final class TreeCoverForge {
    public static final int BAD = -1;
    public static final int FULL = -2;
    public static final int NONE = -3;
    public static final int DIVERGES = -4;

    private static final int CONST = 0;
    private static final int VAR = 1;
    private static final int PLACE = 2;
    private static final int NEG = 3;
    private static final int TWICE = 4;
    private static final int ADD = 5;
    private static final int SUB = 6;
    private static final int MUL = 7;
    /** Stands where an operator would stand, in chain rules and in their instructions. */
    private static final int CHAIN = 8;
    private static final int OPERATORS = 8;
    private static final int[] ARITIES = {0, 0, 0, 1, 1, 2, 2, 2};

    private static final int KINDS = 4;
    private static final int CODE_KIND = 0;
    private static final int MAX_RULES = 24;
    private static final int MAX_COST = 9;
    private static final int MAX_STATES = 40;
    private static final int MAX_NODES = 40;
    private static final int MAX_HEIGHT = 10;
    private static final int VARIABLES = 8;
    private static final int FIRST_ADDRESS = 100;
    private static final int MAX_REGISTERS = 4;
    private static final int REGISTERS_AT_FIRST = 3;
    /** Chain rules cost something, so a cover takes no kind of a node twice: one rule a kind. */
    private static final int MAX_INSTRUCTIONS = MAX_NODES * KINDS;
    private static final int WHATS = 5;

    /** The cost that says that there is no cover. */
    private static final long UNCOVERED = -1L;
    private static final int FREE = -1;
    private static final int NOT_COUNTED = 0;

    private final RuleBook book;
    private final Pile pile;
    private final StateTable table;
    private final Code code;
    private final int[] variables;
    private int registerCount;

    public TreeCoverForge() {
        book = new RuleBook();
        pile = new Pile();
        table = new StateTable();
        code = new Code();
        variables = new int[VARIABLES];
        registerCount = REGISTERS_AT_FIRST;
    }

    public int rule(int kind, int op, int a, int b, int cost) {
        if (!isKind(kind) || op < 0 || op > CHAIN || !isKind(a) || !isKind(b)
                || !fitsOperator(kind, op, a, b) || !isCostFor(op, cost)) {
            return BAD;
        }
        if (book.count == MAX_RULES) {
            return FULL;
        }
        forgetConclusions();
        return book.add(kind, op, a, b, cost);
    }

    public void clear() {
        forgetConclusions();
        book.removeAll();
    }

    public int states() {
        if (table.counted == NOT_COUNTED) {
            table.findAll(book);
        }
        return table.counted;
    }

    public int push(int op, int v) {
        if (op < 0 || op >= OPERATORS || !isNumberFor(op, v) || pile.treeCount < ARITIES[op]) {
            return BAD;
        }
        if (pile.nodeCount == MAX_NODES || pile.heightOfNew(op) > MAX_HEIGHT) {
            return FULL;
        }
        pile.add(op, v);
        return pile.treeCount;
    }

    public boolean pop() {
        if (pile.treeCount == 0) {
            return false;
        }
        pile.removeTop();
        return true;
    }

    public int trees() {
        return pile.treeCount;
    }

    public int nodes() {
        return pile.topSize();
    }

    public int relative(int node, int kind) {
        if (!isTopNode(node) || !isKind(kind)) {
            return BAD;
        }
        Label label = pile.labelOf(book, node);
        return label.isCovered(kind) ? (int) (label.costs[kind] - label.leastCost()) : NONE;
    }

    public int choice(int node, int kind) {
        if (!isTopNode(node) || !isKind(kind)) {
            return BAD;
        }
        return pile.labelOf(book, node).choices[kind];
    }

    public int cost(int kind) {
        if (pile.treeCount == 0 || !isKind(kind)) {
            return BAD;
        }
        Label label = pile.labelOf(book, pile.topSize() - 1);
        return label.isCovered(kind) ? (int) label.costs[kind] : NONE;
    }

    public boolean registers(int registers) {
        if (registers < 1 || registers > MAX_REGISTERS) {
            return false;
        }
        registerCount = registers;
        return true;
    }

    public int cover() {
        if (pile.treeCount == 0) {
            return BAD;
        }
        if (!pile.labelOf(book, pile.topSize() - 1).isCovered(CODE_KIND)) {
            return NONE;
        }
        code.write(book, pile);
        code.givePlaces(registerCount);
        return code.count;
    }

    public int instruction(int i, int what) {
        if (i < 0 || i >= code.count || what < 0 || what >= WHATS) {
            return BAD;
        }
        return code.tell(i, what);
    }

    public int slots() {
        return code.slotCount;
    }

    public boolean set(int v, int x) {
        if (!isVariable(v)) {
            return false;
        }
        variables[v] = x;
        return true;
    }

    public int run() {
        return code.execute(variables);
    }

    public int value() {
        return pile.evaluateTop(variables);
    }

    /** What was worked out from the rules holds no longer once they change. */
    private void forgetConclusions() {
        table.counted = NOT_COUNTED;
        pile.labelledCount = 0;
    }

    private boolean isTopNode(int node) {
        return node >= 0 && node < pile.topSize();
    }

    private static boolean isKind(int kind) {
        return kind >= 0 && kind < KINDS;
    }

    private static boolean isVariable(int v) {
        return v >= 0 && v < VARIABLES;
    }

    private static boolean isNumberFor(int op, int v) {
        return op != VAR && op != PLACE || isVariable(v);
    }

    private static boolean fitsOperator(int kind, int op, int a, int b) {
        if (op == CHAIN) {
            return a != kind && b == 0;
        }
        return (ARITIES[op] >= 1 || a == 0) && (ARITIES[op] == 2 || b == 0);
    }

    private static boolean isCostFor(int op, int cost) {
        return cost >= (op == CHAIN ? 1 : 0) && cost <= MAX_COST;
    }

    private static int resultOf(int op, int number, int left, int right, int[] variables) {
        switch (op) {
            case CONST:
                return number;
            case VAR:
                return variables[number];
            case PLACE:
                return FIRST_ADDRESS + number;
            case NEG:
                return -left;
            case TWICE:
                return left + left;
            case ADD:
                return left + right;
            case SUB:
                return left - right;
            case MUL:
                return left * right;
            default:
                return left;
        }
    }

    /** The rules by their numbers, and for each operator, and for CHAIN, the numbers of its rules. */
    private static final class RuleBook {
        final int[] kinds = new int[MAX_RULES];
        final int[] ops = new int[MAX_RULES];
        final int[] firsts = new int[MAX_RULES];
        final int[] seconds = new int[MAX_RULES];
        final int[] costs = new int[MAX_RULES];
        final int[][] numbersOf = new int[OPERATORS + 1][MAX_RULES];
        final int[] sizeOf = new int[OPERATORS + 1];
        int count;

        int add(int kind, int op, int first, int second, int cost) {
            int number = count;
            kinds[number] = kind;
            ops[number] = op;
            firsts[number] = first;
            seconds[number] = second;
            costs[number] = cost;
            numbersOf[op][sizeOf[op]] = number;
            sizeOf[op]++;
            count++;
            return number;
        }

        void removeAll() {
            count = 0;
            Arrays.fill(sizeOf, 0);
        }
    }

    /**
     * The least costs and the choices of one tree, by kinds. Costs are longs because the states of
     * ever higher trees can double them at every step. A new label serves as the kid that a leaf
     * or a unary operator has not: it costs 0 as kind 0, which their rules name for it.
     */
    private static final class Label {
        final long[] costs = new long[KINDS];
        final int[] choices = new int[KINDS];

        boolean isCovered(int kind) {
            return costs[kind] != UNCOVERED;
        }

        void derive(RuleBook book, int op, Label left, Label right) {
            Arrays.fill(costs, UNCOVERED);
            Arrays.fill(choices, NONE);
            int size = book.sizeOf[op];
            for (int i = 0; i < size; i++) {
                int rule = book.numbersOf[op][i];
                int first = book.firsts[rule];
                int second = book.seconds[rule];
                if (left.isCovered(first) && right.isCovered(second)) {
                    offer(book, rule, left.costs[first] + right.costs[second]);
                }
            }
            applyChains(book);
        }

        /** A cover of least cost takes no kind twice: after KINDS - 1 chain rules nothing changes. */
        private void applyChains(RuleBook book) {
            int size = book.sizeOf[CHAIN];
            boolean changed = true;
            for (int round = 0; round < KINDS - 1 && changed; round++) {
                changed = false;
                for (int i = 0; i < size; i++) {
                    int rule = book.numbersOf[CHAIN][i];
                    int other = book.firsts[rule];
                    if (isCovered(other) && offer(book, rule, costs[other])) {
                        changed = true;
                    }
                }
            }
        }

        /** Takes the rule over covers that cost so much for the choice if none is better. */
        private boolean offer(RuleBook book, int rule, long costBelow) {
            int kind = book.kinds[rule];
            long total = costBelow + book.costs[rule];
            boolean better = costs[kind] == UNCOVERED || total < costs[kind]
                    || total == costs[kind] && rule < choices[kind];
            if (better) {
                costs[kind] = total;
                choices[kind] = rule;
            }
            return better;
        }

        long leastCost() {
            long least = UNCOVERED;
            for (int kind = 0; kind < KINDS; kind++) {
                if (isCovered(kind) && (least == UNCOVERED || costs[kind] < least)) {
                    least = costs[kind];
                }
            }
            return least;
        }

        void makeRelative() {
            long least = leastCost();
            for (int kind = 0; kind < KINDS; kind++) {
                if (isCovered(kind)) {
                    costs[kind] -= least;
                }
            }
        }

        boolean agreesWith(Label other) {
            for (int kind = 0; kind < KINDS; kind++) {
                if (costs[kind] != other.costs[kind] || choices[kind] != other.choices[kind]) {
                    return false;
                }
            }
            return true;
        }
    }

    /** Finds the states of all trees: those of the leaves, then those of operators over states. */
    private static final class StateTable {
        /** The found ones; the one behind them is worked on, and kept if it is new. */
        final Label[] found = new Label[MAX_STATES + 1];
        final Label noKid = new Label();
        int foundCount;
        /** The answer for the rules of now, kept until they change. */
        int counted = NOT_COUNTED;

        StateTable() {
            for (int i = 0; i < found.length; i++) {
                found[i] = new Label();
            }
        }

        void findAll(RuleBook book) {
            foundCount = 0;
            for (int op = CONST; op <= PLACE; op++) {
                look(book, op, noKid, noKid);
            }
            for (int i = 0; i < foundCount && foundCount <= MAX_STATES; i++) {
                for (int op = NEG; op <= TWICE; op++) {
                    look(book, op, found[i], noKid);
                }
                for (int j = 0; j <= i; j++) {
                    lookAtPair(book, i, j);
                }
            }
            counted = foundCount > MAX_STATES ? DIVERGES : foundCount;
        }

        private void lookAtPair(RuleBook book, int i, int j) {
            for (int op = ADD; op <= MUL; op++) {
                look(book, op, found[i], found[j]);
                if (i != j) {
                    look(book, op, found[j], found[i]);
                }
            }
        }

        private void look(RuleBook book, int op, Label left, Label right) {
            if (foundCount > MAX_STATES) {
                return;
            }
            Label next = found[foundCount];
            next.derive(book, op, left, right);
            next.makeRelative();
            for (int i = 0; i < foundCount; i++) {
                if (found[i].agreesWith(next)) {
                    return;
                }
            }
            foundCount++;
        }
    }

    /**
     * The trees, all in one row: every tree's nodes in their order, the top tree's last. A node's
     * right or only kid so stands right before it, and its left kid before all of the right one.
     */
    private static final class Pile {
        final int[] ops = new int[MAX_NODES];
        final int[] numbers = new int[MAX_NODES];
        final int[] sizes = new int[MAX_NODES];
        final int[] heights = new int[MAX_NODES];
        final int[] results = new int[MAX_NODES];
        final Label[] labels = new Label[MAX_NODES];
        final Label noKid = new Label();
        int nodeCount;
        int treeCount;
        /** So many nodes, from the first on, have labels that the rules of now give them. */
        int labelledCount;

        Pile() {
            for (int i = 0; i < labels.length; i++) {
                labels[i] = new Label();
            }
        }

        int topSize() {
            return treeCount == 0 ? 0 : sizes[nodeCount - 1];
        }

        int topStart() {
            return nodeCount - topSize();
        }

        /** The left or only kid of a node that is no leaf; the node may be one that is to come. */
        int firstKid(int node, int op) {
            return ARITIES[op] == 2 ? node - 1 - sizes[node - 1] : node - 1;
        }

        int heightOfNew(int op) {
            if (ARITIES[op] == 0) {
                return 1;
            }
            return 1 + Math.max(heights[firstKid(nodeCount, op)], heights[nodeCount - 1]);
        }

        void add(int op, int number) {
            int size = 1;
            if (ARITIES[op] >= 1) {
                int first = firstKid(nodeCount, op);
                size += nodeCount - first - 1 + sizes[first];
            }
            heights[nodeCount] = heightOfNew(op);
            sizes[nodeCount] = size;
            ops[nodeCount] = op;
            numbers[nodeCount] = number;
            nodeCount++;
            treeCount += 1 - ARITIES[op];
        }

        void removeTop() {
            nodeCount -= topSize();
            treeCount--;
            labelledCount = Math.min(labelledCount, nodeCount);
        }

        /** The label of a node of the top tree. */
        Label labelOf(RuleBook book, int node) {
            for (int i = labelledCount; i < nodeCount; i++) {
                int arity = ARITIES[ops[i]];
                Label left = arity == 0 ? noKid : labels[firstKid(i, ops[i])];
                Label right = arity == 2 ? labels[i - 1] : noKid;
                labels[i].derive(book, ops[i], left, right);
            }
            labelledCount = nodeCount;
            return labels[topStart() + node];
        }

        int evaluateTop(int[] variables) {
            if (treeCount == 0) {
                return 0;
            }
            for (int i = topStart(); i < nodeCount; i++) {
                int arity = ARITIES[ops[i]];
                int left = arity == 0 ? 0 : results[firstKid(i, ops[i])];
                int right = arity == 2 ? results[i - 1] : 0;
                results[i] = resultOf(ops[i], numbers[i], left, right, variables);
            }
            return results[nodeCount - 1];
        }
    }

    /** The code: it keeps its own copy of all that it needs of rules and trees. */
    private static final class Code {
        final int[] rules = new int[MAX_INSTRUCTIONS];
        final int[] nodes = new int[MAX_INSTRUCTIONS];
        final int[] ops = new int[MAX_INSTRUCTIONS];
        final int[] numbers = new int[MAX_INSTRUCTIONS];
        /** The instructions that are sources, or NONE. */
        final int[] firsts = new int[MAX_INSTRUCTIONS];
        final int[] seconds = new int[MAX_INSTRUCTIONS];
        final int[] lastUses = new int[MAX_INSTRUCTIONS];
        final int[] places = new int[MAX_INSTRUCTIONS];
        final int[] memory = new int[MAX_REGISTERS + MAX_INSTRUCTIONS];
        final int[] holders = new int[MAX_REGISTERS];
        /** By nodes of the pile: the kind that each is covered as, its latest instruction. */
        final int[] kinds = new int[MAX_NODES];
        final int[] latest = new int[MAX_NODES];
        /** The rules with which a node is covered, the operator rule last. */
        final int[] path = new int[KINDS];
        int count;
        int slotCount;

        /** Writes the code of the top tree, which must have a cover; the places stay open. */
        void write(RuleBook book, Pile pile) {
            count = 0;
            chooseKinds(book, pile);
            for (int node = pile.topStart(); node < pile.nodeCount; node++) {
                int length = followChoices(book, pile, node);
                writeOperator(pile, node, path[length - 1]);
                for (int i = length - 2; i >= 0; i--) {
                    append(path[i], node - pile.topStart(), CHAIN, 0, count - 1, NONE);
                }
                latest[node] = count - 1;
            }
        }

        /** Goes from the root down, so that a node's kind stands before its kids ask for theirs. */
        private void chooseKinds(RuleBook book, Pile pile) {
            kinds[pile.nodeCount - 1] = CODE_KIND;
            for (int node = pile.nodeCount - 1; node >= pile.topStart(); node--) {
                int rule = path[followChoices(book, pile, node) - 1];
                int op = pile.ops[node];
                if (ARITIES[op] >= 1) {
                    kinds[pile.firstKid(node, op)] = book.firsts[rule];
                }
                if (ARITIES[op] == 2) {
                    kinds[node - 1] = book.seconds[rule];
                }
            }
        }

        /** Fills the path with the rules of a node's cover and answers how many they are. */
        private int followChoices(RuleBook book, Pile pile, int node) {
            int kind = kinds[node];
            int length = 0;
            boolean chained = true;
            while (chained && length < KINDS) {
                int rule = pile.labels[node].choices[kind];
                path[length] = rule;
                length++;
                chained = book.ops[rule] == CHAIN;
                kind = book.firsts[rule];
            }
            return length;
        }

        private void writeOperator(Pile pile, int node, int rule) {
            int op = pile.ops[node];
            int first = ARITIES[op] >= 1 ? latest[pile.firstKid(node, op)] : NONE;
            int second = ARITIES[op] == 2 ? latest[node - 1] : NONE;
            append(rule, node - pile.topStart(), op, pile.numbers[node], first, second);
        }

        private void append(int rule, int node, int op, int number, int first, int second) {
            rules[count] = rule;
            nodes[count] = node;
            ops[count] = op;
            numbers[count] = number;
            firsts[count] = first;
            seconds[count] = second;
            lastUses[count] = count;
            if (first != NONE) {
                lastUses[first] = count;
            }
            if (second != NONE) {
                lastUses[second] = count;
            }
            count++;
        }

        void givePlaces(int registerCount) {
            slotCount = 0;
            Arrays.fill(holders, FREE);
            for (int i = 0; i < count; i++) {
                releaseUntil(i, registerCount);
                int register = leastFree(registerCount);
                if (register == FREE) {
                    spillFor(i, registerCount);
                } else {
                    holders[register] = i;
                    places[i] = register;
                }
            }
        }

        private void releaseUntil(int i, int registerCount) {
            for (int register = 0; register < registerCount; register++) {
                if (holders[register] != FREE && lastUses[holders[register]] <= i) {
                    holders[register] = FREE;
                }
            }
        }

        private int leastFree(int registerCount) {
            for (int register = 0; register < registerCount; register++) {
                if (holders[register] == FREE) {
                    return register;
                }
            }
            return FREE;
        }

        /** All registers are held: the one that is needed longest, maybe i itself, gets a slot. */
        private void spillFor(int i, int registerCount) {
            int spilled = i;
            for (int register = 0; register < registerCount; register++) {
                if (isNeededLonger(holders[register], spilled)) {
                    spilled = holders[register];
                }
            }
            if (spilled != i) {
                places[i] = places[spilled];
                holders[places[i]] = i;
            }
            places[spilled] = registerCount + slotCount;
            slotCount++;
        }

        private boolean isNeededLonger(int one, int other) {
            return lastUses[one] > lastUses[other]
                    || lastUses[one] == lastUses[other] && one > other;
        }

        int tell(int i, int what) {
            switch (what) {
                case 0:
                    return rules[i];
                case 1:
                    return nodes[i];
                case 2:
                    return places[i];
                case 3:
                    return placeOf(firsts[i]);
                default:
                    return placeOf(seconds[i]);
            }
        }

        private int placeOf(int source) {
            return source == NONE ? NONE : places[source];
        }

        int execute(int[] variables) {
            if (count == 0) {
                return 0;
            }
            for (int i = 0; i < count; i++) {
                int left = firsts[i] == NONE ? 0 : memory[places[firsts[i]]];
                int right = seconds[i] == NONE ? 0 : memory[places[seconds[i]]];
                memory[places[i]] = resultOf(ops[i], numbers[i], left, right, variables);
            }
            return memory[places[count - 1]];
        }
    }
}

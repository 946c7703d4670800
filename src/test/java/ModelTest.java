import java.util.ArrayList;
import java.util.List;

/** All promises: long runs of mixed calls, every answer set against the model's. */
public final class ModelTest {
    private static final int RUNS = 600;
    /** The document says nothing of an object's calls beyond these. */
    private static final int CALLS = 512;
    /** What the runs must have met, so that they are worth their time. */
    private static int coversMade = 0;
    private static int coversWithSlots = 0;
    private static int statesMany = 0;
    private static int statesDiverged = 0;

    private final TreeCoverForge forge = new TreeCoverForge();
    private final Model model = new Model();
    private final int run;
    private long seed;
    private int calls = 0;

    private ModelTest(int run) {
        this.run = run;
        this.seed = 7919L * run + 17;
    }

    public static void main(String[] args) {
        for (int run = 0; run < RUNS; run++) {
            new ModelTest(run).play();
        }
        Check.due("covers were made", coversMade > 4000, true);
        Check.due("covers used slots", coversWithSlots > 500, true);
        Check.due("there were many states", statesMany > 100, true);
        Check.due("states diverged", statesDiverged > 20, true);
        Check.finish();
    }

    /** A number of 0 .. bound - 1, the same in every run of the test. */
    private int pick(int bound) {
        seed = seed * 6364136223846793005L + 1442695040888963407L;
        return (int) ((seed >>> 33) % bound);
    }

    /** Every call of the forge comes through here. */
    private void due(String call, long got, long want) {
        calls++;
        if (calls <= CALLS) {
            Check.due("run " + run + ", call " + calls + ": " + call, got, want);
        }
    }

    private void play() {
        int kinds = 1 + run % 4;
        for (int op = 0; op < 8 && run % 5 != 0; op++) {
            rule(0, op, 0, 0, pick(4));
        }
        while (calls < CALLS) {
            int what = pick(100);
            if (what < 5) {
                rule(pick(kinds), pick(9), pick(kinds), pick(3) == 0 ? pick(kinds) : 0, pick(10));
            } else if (what < 7) {
                rule(pick(6) - 1, pick(11) - 1, pick(6) - 1, pick(6) - 1, pick(13) - 2);
            } else if (what < 60) {
                push(operator(), pick(10) == 0 ? pick(12) - 2 : pick(8));
            } else {
                other(what, kinds);
            }
        }
    }

    /** Leaves and binary operators above all: trees with many leaves need many places. */
    private int operator() {
        int what = pick(20);
        return what < 10 ? pick(3) : what < 16 ? 5 + pick(3) : pick(10) - 1;
    }

    private void other(int what, int kinds) {
        switch (what) {
            case 60, 61 -> pop();
            case 62, 63 -> set(pick(10) - 1, pick(2) == 0 ? pick(9) - 4 : (int) (seed >>> 16));
            case 64, 65 -> registers(pick(3) == 0 ? pick(6) : 1 + pick(2));
            case 66, 67, 68, 69, 70, 71 -> cover();
            case 72 -> clearAndRuleAgain(kinds);
            case 73, 74, 75, 76 -> states();
            case 77, 78, 79 -> due("run()", forge.run(), runDue());
            case 80, 81 -> due("value()", forge.value(), model.top() == null ? 0 : model.valueOf(model.top()));
            case 82 -> due("slots()", forge.slots(), model.slots);
            case 83 -> due("trees()", forge.trees(), model.pile.size());
            case 84 -> due("nodes()", forge.nodes(), model.top() == null ? 0 : model.top().size());
            case 85, 86 -> cost(pick(6) - 1);
            case 87, 88 -> instruction(pick(model.code.size() + 2) - 1, pick(7) - 1);
            default -> node();
        }
    }

    private void clearAndRuleAgain(int kinds) {
        if (pick(4) != 0) {
            return;
        }
        forge.clear();
        calls++;
        model.rules.clear();
        for (int op = 0; op < 8; op++) {
            rule(pick(kinds), op, op < 3 ? 0 : pick(kinds), op < 5 ? 0 : pick(kinds), pick(4));
        }
    }

    private int runDue() {
        return model.code.isEmpty() ? 0 : model.valueOf(model.code.get(model.code.size() - 1).node);
    }

    private static boolean isIn(int x, int least, int greatest) {
        return x >= least && x <= greatest;
    }

    private void rule(int kind, int op, int a, int b, int cost) {
        boolean good = isIn(kind, 0, 3) && isIn(op, 0, 8) && isIn(a, 0, 3) && isIn(b, 0, 3)
                && (op >= 3 || a == 0) && (isIn(op, 5, 7) || b == 0) && (op != 8 || a != kind)
                && isIn(cost, 0, 9) && (op != 8 || cost != 0);
        int want = !good ? TreeCoverForge.BAD
                : model.rules.size() == 24 ? TreeCoverForge.FULL : model.rules.size();
        if (want >= 0) {
            model.rules.add(new Model.Rule(kind, op, a, b, cost));
        }
        due("rule(" + kind + ", " + op + ", " + a + ", " + b + ", " + cost + ")",
                forge.rule(kind, op, a, b, cost), want);
    }

    private void push(int op, int v) {
        due("push(" + op + ", " + v + ")", forge.push(op, v), pushDue(op, v));
    }

    private int pushDue(int op, int v) {
        List<Model.Tree> pile = model.pile;
        if (!isIn(op, 0, 7) || (op == 1 || op == 2) && !isIn(v, 0, 7) || pile.size() < Model.arity(op)) {
            return TreeCoverForge.BAD;
        }
        int size = pile.size();
        Model.Tree last = size == 0 ? null : pile.get(size - 1);
        Model.Tree made = switch (Model.arity(op)) {
            case 0 -> new Model.Tree(op, v, null, null);
            case 1 -> new Model.Tree(op, v, last, null);
            default -> new Model.Tree(op, v, pile.get(size - 2), last);
        };
        int nodes = 0;
        for (Model.Tree tree : pile) {
            nodes += tree.size();
        }
        if (nodes == 40 || made.height() > 10) {
            return TreeCoverForge.FULL;
        }
        for (int i = 0; i < Model.arity(op); i++) {
            pile.remove(pile.size() - 1);
        }
        pile.add(made);
        return pile.size();
    }

    private void pop() {
        boolean want = !model.pile.isEmpty();
        if (want) {
            model.pile.remove(model.pile.size() - 1);
        }
        due("pop()", forge.pop() ? 1 : 0, want ? 1 : 0);
    }

    private void set(int v, int x) {
        boolean want = isIn(v, 0, 7);
        if (want) {
            model.variables[v] = x;
        }
        due("set(" + v + ", " + x + ")", forge.set(v, x) ? 1 : 0, want ? 1 : 0);
    }

    private void registers(int registers) {
        boolean want = isIn(registers, 1, 4);
        if (want) {
            model.registers = registers;
        }
        due("registers(" + registers + ")", forge.registers(registers) ? 1 : 0, want ? 1 : 0);
    }

    private void states() {
        int want = model.states(40);
        statesMany += want > 8 && want <= 40 ? 1 : 0;
        statesDiverged += want > 40 ? 1 : 0;
        due("states()", forge.states(), want > 40 ? TreeCoverForge.DIVERGES : want);
    }

    private void cost(int kind) {
        int want = model.top() == null || !isIn(kind, 0, 3) ? TreeCoverForge.BAD
                : (int) model.covers(model.top()).costs()[kind];
        due("cost(" + kind + ")", forge.cost(kind), want);
    }

    private void node() {
        List<Model.Tree> nodes = new ArrayList<>();
        if (model.top() != null) {
            model.top().listNodes(nodes);
        }
        int node = pick(nodes.size() + 2) - 1;
        int kind = pick(8) == 0 ? pick(6) - 1 : pick(4);
        int relative = TreeCoverForge.BAD;
        int choice = TreeCoverForge.BAD;
        if (isIn(node, 0, nodes.size() - 1) && isIn(kind, 0, 3)) {
            Model.Covers covers = model.covers(nodes.get(node));
            relative = (int) covers.relative(kind);
            choice = covers.choices()[kind];
        }
        due("relative(" + node + ", " + kind + ")", forge.relative(node, kind), relative);
        due("choice(" + node + ", " + kind + ")", forge.choice(node, kind), choice);
    }

    private void cover() {
        int want = model.top() == null ? TreeCoverForge.BAD : model.cover();
        due("cover()", forge.cover(), want);
        due("slots()", forge.slots(), model.slots);
        due("run()", forge.run(), runDue());
        if (want > 0) {
            coversMade++;
            coversWithSlots += model.slots > 0 ? 1 : 0;
            for (int i = 0; i < want && pick(12) != 0; i++) {
                for (int what = 0; what < 5; what++) {
                    instruction(i, what);
                }
            }
        }
    }

    private void instruction(int i, int what) {
        due("instruction(" + i + ", " + what + ")", forge.instruction(i, what), model.instruction(i, what));
    }
}

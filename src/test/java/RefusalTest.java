import java.util.ArrayList;
import java.util.List;
import java.util.function.BiConsumer;
import java.util.function.Consumer;
import java.util.function.ToIntFunction;

/**
 * "A call that is refused changes nothing": of two objects with the same past one gets the refused
 * call, and then both are asked for everything that calls can show, until nothing is left to ask.
 */
public final class RefusalTest {
    private static final int BAD = TreeCoverForge.BAD;
    private static final int FULL = TreeCoverForge.FULL;
    private static final int NONE = TreeCoverForge.NONE;
    private static final int FALSE = 0;
    /** The longest past of all, and the refused calls, must leave so many calls to ask with. */
    private static final int MOST_ASKED = 360;
    private static final int CODE_LENGTH = 7;

    private record Refused(String call, int due, ToIntFunction<TreeCoverForge> made) {
    }

    /** Asks for one sort of things alone: refused calls among other questions could hide a change. */
    private record Probe(String about, BiConsumer<TreeCoverForge, List<Integer>> asked) {
    }

    private final String name;
    private final int codeLength;
    private final Consumer<TreeCoverForge> past;
    private final List<Refused> refused = new ArrayList<>();
    private final List<Probe> probes = new ArrayList<>();

    private RefusalTest(String name, int codeLength, Consumer<TreeCoverForge> past) {
        this.name = name;
        this.codeLength = codeLength;
        this.past = past;
        probes.add(new Probe("code", this::askCode));
        probes.add(new Probe("labels", RefusalTest::askLabels));
        probes.add(new Probe("labels from behind", RefusalTest::askLabelsFromBehind));
        probes.add(new Probe("labels of new trees", RefusalTest::askNewTrees));
        probes.add(new Probe("states", (forge, answers) -> answers.add(forge.states())));
        probes.add(new Probe("pile", RefusalTest::askPile));
        probes.add(new Probe("variables", RefusalTest::askVariables));
        probes.add(new Probe("K", RefusalTest::askRegisters));
        probes.add(new Probe("rules", RefusalTest::askRules));
        probes.add(new Probe("room for trees", RefusalTest::askRoom));
        probes.add(new Probe("new code", RefusalTest::askNewCode));
        probes.add(new Probe("all", this::askAll));
    }

    public static void main(String[] args) {
        Check.each(
                RefusalTest::newObject,
                RefusalTest::inUse,
                RefusalTest::statesAsked,
                RefusalTest::fullOfRules,
                RefusalTest::fullOfNodes,
                RefusalTest::asHighAsCanBe,
                RefusalTest::withoutTrees,
                RefusalTest::withoutRules);
    }

    private RefusalTest refuse(int due, String call, ToIntFunction<TreeCoverForge> made) {
        refused.add(new Refused(call, due, made));
        return this;
    }

    private RefusalTest rule(int due, int kind, int op, int a, int b, int cost) {
        return refuse(due, "rule(" + kind + ", " + op + ", " + a + ", " + b + ", " + cost + ")",
                forge -> forge.rule(kind, op, a, b, cost));
    }

    private RefusalTest push(int due, int op, int v) {
        return refuse(due, "push(" + op + ", " + v + ")", forge -> forge.push(op, v));
    }

    private RefusalTest label(int due, int node, int kind) {
        refuse(due, "relative(" + node + ", " + kind + ")", forge -> forge.relative(node, kind));
        return refuse(due, "choice(" + node + ", " + kind + ")", forge -> forge.choice(node, kind));
    }

    private RefusalTest cost(int due, int kind) {
        return refuse(due, "cost(" + kind + ")", forge -> forge.cost(kind));
    }

    private RefusalTest cover(int due) {
        return refuse(due, "cover()", TreeCoverForge::cover);
    }

    private RefusalTest pop() {
        return refuse(FALSE, "pop()", forge -> forge.pop() ? 1 : 0);
    }

    /** What every object refuses. */
    private RefusalTest always() {
        rule(BAD, -1, 0, 0, 0, 0).rule(BAD, 4, 0, 0, 0, 0).rule(BAD, 0, -1, 0, 0, 0);
        rule(BAD, 0, 9, 0, 0, 0).rule(BAD, 0, 3, -1, 0, 0).rule(BAD, 0, 3, 4, 0, 0);
        rule(BAD, 0, 5, 0, -1, 0).rule(BAD, 0, 5, 0, 4, 0).rule(BAD, 0, 0, 1, 0, 0);
        rule(BAD, 0, 0, 0, 1, 0).rule(BAD, 0, 4, 0, 1, 0).rule(BAD, 0, 8, 1, 1, 1);
        rule(BAD, 0, 8, 0, 0, 1).rule(BAD, 0, 0, 0, 0, -1).rule(BAD, 0, 0, 0, 0, 10);
        rule(BAD, 0, 8, 1, 0, 0).push(BAD, -1, 0).push(BAD, 8, 0);
        push(BAD, 1, -1).push(BAD, 1, 8).push(BAD, 2, -1).push(BAD, 2, 8);
        label(BAD, -1, 0).label(BAD, 40, 0).label(BAD, 0, -1).label(BAD, 0, 4);
        cost(BAD, -1).cost(BAD, 4);
        for (int registers : new int[] {0, 5}) {
            refuse(FALSE, "registers(" + registers + ")", forge -> forge.registers(registers) ? 1 : 0);
        }
        for (int v : new int[] {-1, 8}) {
            refuse(FALSE, "set(" + v + ", 77)", forge -> forge.set(v, 77) ? 1 : 0);
        }
        for (int i : new int[] {-1, 160}) {
            refuse(BAD, "instruction(" + i + ", 0)", forge -> forge.instruction(i, 0));
        }
        for (int what : new int[] {-1, 5}) {
            refuse(BAD, "instruction(0, " + what + ")", forge -> forge.instruction(0, what));
        }
        return this;
    }

    /** Every refused call on an object of its own, and all of them on one, for every probe. */
    private void changeNothing() {
        for (Probe probe : probes) {
            String about = name + ", " + probe.about();
            Check.sentence("Terms: A call that is refused changes nothing (" + about + ")");
            List<Integer> due = answers(probe, made());
            Check.due("so many things are asked", due.size() <= MOST_ASKED, true);
            TreeCoverForge all = made();
            for (Refused call : refused) {
                Check.sentence("Terms: A call that is refused changes nothing (" + about + ": " + call.call() + ")");
                TreeCoverForge one = made();
                Check.due(call.call(), call.made().applyAsInt(one), call.due());
                compare(answers(probe, one), due);
                Check.due(call.call(), call.made().applyAsInt(all), call.due());
            }
            Check.sentence("Terms: A call that is refused changes nothing (" + about + ": all of them)");
            compare(answers(probe, all), due);
        }
    }

    private TreeCoverForge made() {
        TreeCoverForge forge = new TreeCoverForge();
        past.accept(forge);
        return forge;
    }

    private static List<Integer> answers(Probe probe, TreeCoverForge forge) {
        List<Integer> answers = new ArrayList<>();
        probe.asked().accept(forge, answers);
        return answers;
    }

    private static void compare(List<Integer> got, List<Integer> due) {
        Check.due("how much there is to ask", got.size(), due.size());
        for (int i = 0; i < Math.min(got.size(), due.size()); i++) {
            Check.due("question " + i + " behind it", got.get(i), due.get(i));
        }
    }

    private void askCode(TreeCoverForge forge, List<Integer> answers) {
        answers.add(forge.run());
        answers.add(forge.slots());
        askInstructions(forge, codeLength, answers);
        answers.add(forge.instruction(codeLength, 0));
    }

    private static void askInstructions(TreeCoverForge forge, int count, List<Integer> answers) {
        for (int i = 0; i < count; i++) {
            for (int what = 0; what <= 4; what++) {
                answers.add(forge.instruction(i, what));
            }
        }
    }

    private static void askLabels(TreeCoverForge forge, List<Integer> answers) {
        int nodes = forge.nodes();
        for (int kind = 0; kind < 4; kind++) {
            answers.add(forge.cost(kind));
            for (int node = 0; node < nodes; node++) {
                answers.add(forge.relative(node, kind));
                answers.add(forge.choice(node, kind));
            }
        }
    }

    private static void askLabelsFromBehind(TreeCoverForge forge, List<Integer> answers) {
        for (int node = forge.nodes() - 1; node >= 0; node--) {
            for (int kind = 2; kind >= 0; kind--) {
                answers.add(forge.choice(node, kind));
                answers.add(forge.relative(node, kind));
            }
        }
    }

    private static void askPile(TreeCoverForge forge, List<Integer> answers) {
        for (int trees = forge.trees(); trees > 0; trees--) {
            answers.add(forge.trees());
            answers.add(forge.nodes());
            answers.add(forge.value());
            forge.pop();
        }
        answers.add(forge.trees());
        answers.add(forge.nodes());
        answers.add(forge.value());
    }

    private static void popAll(TreeCoverForge forge) {
        for (int trees = forge.trees(); trees > 0; trees--) {
            forge.pop();
        }
    }

    private static void askNewTrees(TreeCoverForge forge, List<Integer> answers) {
        popAll(forge);
        int[] ops = {0, 1, 5, 2, 6, 3, 0, 7};
        for (int op : ops) {
            answers.add(forge.push(op, 1));
            askLabelsFromBehind(forge, answers);
        }
    }

    private static void askVariables(TreeCoverForge forge, List<Integer> answers) {
        popAll(forge);
        for (int v = 0; v < 8; v++) {
            forge.push(1, v);
            answers.add(forge.value());
        }
    }

    private static void askRegisters(TreeCoverForge forge, List<Integer> answers) {
        popAll(forge);
        forge.clear();
        forge.rule(0, 0, 0, 0, 1);
        forge.rule(0, 6, 0, 0, 1);
        Check.pushAll(forge, 0, 1, 0, 2, 0, 3, 0, 4, 0, 5, 0, 6, 6, 0, 6, 0, 6, 0, 6, 0, 6, 0);
        int count = forge.cover();
        answers.add(count);
        answers.add(forge.slots());
        askInstructions(forge, count, answers);
    }

    private static void askRules(TreeCoverForge forge, List<Integer> answers) {
        int number = 0;
        for (int i = 0; i < 25 && number >= 0; i++) {
            number = forge.rule(3, 1, 0, 0, 0);
            answers.add(number);
        }
        forge.clear();
        answers.add(forge.rule(0, 0, 0, 0, 0));
    }

    private static void askRoom(TreeCoverForge forge, List<Integer> answers) {
        int trees = 0;
        for (int i = 0; i < 41 && trees >= 0; i++) {
            trees = forge.push(0, i);
            answers.add(trees);
        }
    }

    private static void askNewCode(TreeCoverForge forge, List<Integer> answers) {
        int count = forge.cover();
        answers.add(count);
        askInstructions(forge, count, answers);
        answers.add(forge.slots());
        answers.add(forge.run());
    }

    private void askAll(TreeCoverForge forge, List<Integer> answers) {
        askCode(forge, answers);
        askLabels(forge, answers);
        answers.add(forge.states());
        askNewCode(forge, answers);
        askPile(forge, answers);
        askVariables(forge, answers);
        askRules(forge, answers);
    }

    private static void newObject() {
        RefusalTest test = new RefusalTest("a new object", 0, forge -> { });
        for (int op = 3; op < 8; op++) {
            test.push(BAD, op, 0);
        }
        for (int kind = 0; kind < 4; kind++) {
            test.label(BAD, 0, kind).cost(BAD, kind);
        }
        test.always().pop().cover(BAD).changeNothing();
    }

    /** Rules of all sorts but for TWICE, three trees, variables, code with K = 2, and now K = 1. */
    private static void usedMuch(TreeCoverForge forge) {
        int[][] rules = {{2, 0, 0, 0, 3}, {1, 0, 0, 0, 1}, {0, 1, 0, 0, 2}, {1, 2, 0, 0, 2},
            {0, 8, 1, 0, 1}, {2, 8, 0, 0, 4}, {0, 3, 2, 0, 1}, {0, 5, 0, 0, 2}, {2, 6, 0, 1, 3},
            {0, 6, 0, 0, 3}, {1, 7, 1, 2, 0}};
        for (int[] rule : rules) {
            forge.rule(rule[0], rule[1], rule[2], rule[3], rule[4]);
        }
        for (int v = 0; v < 8; v++) {
            forge.set(v, 10 + v);
        }
        forge.registers(2);
        Check.pushAll(forge, 0, 7, 1, 3, 3, 0, 2, 4, 1, 1, 0, 6, 5, 0, 6, 0);
        Check.due("cover()", forge.cover(), CODE_LENGTH);
        forge.registers(1);
    }

    private static RefusalTest usedTest(String name, Consumer<TreeCoverForge> more) {
        RefusalTest test = new RefusalTest(name, CODE_LENGTH, forge -> {
            usedMuch(forge);
            more.accept(forge);
        });
        return test.always();
    }

    /** The top tree has five nodes, and none of them is covered as kind 3. */
    private RefusalTest withFiveNodes() {
        return label(BAD, 5, 0).label(BAD, 5, 3).label(NONE, 0, 3).label(NONE, 4, 3).cost(NONE, 3);
    }

    private static void inUse() {
        usedTest("in use", forge -> { }).withFiveNodes().changeNothing();
        usedTest("in use, TWICE in the top tree", forge -> Check.pushAll(forge, 4, 0, 0, 1, 5, 0))
                .label(BAD, 8, 0).label(NONE, 7, 0).cost(NONE, 0).cost(NONE, 1).cover(NONE).changeNothing();
    }

    private static void statesAsked() {
        usedTest("in use, all worked out before", forge -> {
            forge.states();
            forge.cost(0);
        }).withFiveNodes().changeNothing();
    }

    private static void fullOfRules() {
        RefusalTest test = usedTest("full of rules", forge -> {
            for (int i = 11; i < 24; i++) {
                forge.rule(i % 2, 4, 0, 0, 9);
            }
        });
        for (int op = 0; op < 8; op++) {
            test.rule(FULL, 0, op, 0, 0, 0);
        }
        test.rule(FULL, 0, 8, 1, 0, 1).rule(FULL, 3, 8, 0, 0, 1).withFiveNodes().changeNothing();
    }

    private static void fullOfNodes() {
        RefusalTest test = usedTest("full of nodes", forge -> {
            forge.pop();
            for (int i = 0; i < 5; i++) {
                Check.pushAll(forge, 0, i, 3, 0, 3, 0, 1, i, 7, 0, 3, 0);
            }
            Check.pushAll(forge, 0, 1, 3, 0, 1, 3, 1, 1, 0, 6, 5, 0, 6, 0);
        });
        for (int op = 0; op < 8; op++) {
            test.push(FULL, op, 0);
        }
        test.withFiveNodes().changeNothing();
    }

    private static void asHighAsCanBe() {
        RefusalTest high = usedTest("as high as can be", forge -> Check.pushHigh(forge, 10));
        high.push(FULL, 3, 0).push(FULL, 4, 0).push(FULL, 5, 0).push(FULL, 6, 0).push(FULL, 7, 0);
        high.changeNothing();
        RefusalTest below = usedTest("as high as can be below the top", forge -> {
            Check.pushHigh(forge, 10);
            Check.pushAll(forge, 1, 2);
        });
        below.push(FULL, 5, 0).push(FULL, 6, 0).push(FULL, 7, 0).changeNothing();
        RefusalTest alone = new RefusalTest("one high tree alone", 0, forge -> Check.pushHigh(forge, 10));
        alone.always().push(FULL, 3, 0).push(FULL, 4, 0).push(BAD, 5, 0).push(BAD, 6, 0).push(BAD, 7, 0);
        alone.label(NONE, 9, 0).cost(NONE, 0).cover(NONE).changeNothing();
    }

    private static void withoutTrees() {
        RefusalTest test = usedTest("the trees are gone", forge -> {
            for (int i = 0; i < 3; i++) {
                Check.due("pop()", forge.pop(), true);
            }
        });
        for (int op = 3; op < 8; op++) {
            test.push(BAD, op, 0);
        }
        test.label(BAD, 0, 0).cost(BAD, 0).pop().cover(BAD).changeNothing();
    }

    private static void withoutRules() {
        RefusalTest test = usedTest("the rules are gone", TreeCoverForge::clear);
        for (int kind = 0; kind < 4; kind++) {
            test.label(NONE, 0, kind).label(NONE, 4, kind).cost(NONE, kind);
        }
        test.cover(NONE).changeNothing();
    }
}

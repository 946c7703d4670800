import java.util.function.IntBinaryOperator;

/** Promises 9 to 11 and what the terms say of covers, sentence by sentence: relative, choice, cost. */
public final class LabelEdgeTest {
    private static final int BAD = TreeCoverForge.BAD;
    private static final int NONE = TreeCoverForge.NONE;

    public static void main(String[] args) {
        Check.each(
                LabelEdgeTest::byHowMuchMore,
                LabelEdgeTest::greatestDifference,
                LabelEdgeTest::nodesAsTreesOfTheirOwn,
                LabelEdgeTest::relativeWithoutTree,
                LabelEdgeTest::relativeOfNoNode,
                LabelEdgeTest::relativeOfNoKind,
                LabelEdgeTest::relativeWithoutCover,
                LabelEdgeTest::choiceForNodeAndKind,
                LabelEdgeTest::choiceWithoutTree,
                LabelEdgeTest::choiceOfNoNode,
                LabelEdgeTest::choiceOfNoKind,
                LabelEdgeTest::choiceWithoutCover,
                LabelEdgeTest::costForKind,
                LabelEdgeTest::dearestTreeOfAll,
                LabelEdgeTest::costWithoutTree,
                LabelEdgeTest::costOfNoKind,
                LabelEdgeTest::costWithoutCover,
                LabelEdgeTest::badBeforeNone,
                LabelEdgeTest::refusalsChangeNothing,
                LabelEdgeTest::sumOfAllRules,
                LabelEdgeTest::leastNumberedRule,
                LabelEdgeTest::neverGoesRound,
                LabelEdgeTest::nodesInTheirOrder);
    }

    /** CONST is covered as kinds 0, 1 and 2, the sum of two of them as kind 3 alone. */
    private static TreeCoverForge mixed() {
        TreeCoverForge forge = Check.with(new int[] {0, 0, 0, 0, 7}, new int[] {1, 0, 0, 0, 5},
                new int[] {2, 0, 0, 0, 9}, new int[] {3, 5, 0, 1, 4});
        Check.pushAll(forge, 0, 1, 0, 1, 5, 0);
        return forge;
    }

    private static void byHowMuchMore() {
        Check.sentence("9: By how much C of a node of the top tree .. for a kind is more than its least C for any kind.");
        TreeCoverForge forge = mixed();
        int[] due = {2, 0, 4};
        for (int node = 0; node < 2; node++) {
            for (int kind = 0; kind < 3; kind++) {
                Check.due("relative(" + node + ", " + kind + ")", forge.relative(node, kind), due[kind]);
            }
        }
        Check.due("relative(2, 3), the only kind", forge.relative(2, 3), 0);
        TreeCoverForge equal = Check.with(new int[] {0, 0, 0, 0, 0}, new int[] {1, 0, 0, 0, 0},
                new int[] {2, 0, 0, 0, 0}, new int[] {3, 0, 0, 0, 0});
        Check.pushAll(equal, 0, 1);
        for (int kind = 0; kind < 4; kind++) {
            Check.due("relative(0, " + kind + "), all alike", equal.relative(0, kind), 0);
        }
        for (int least = 0; least < 4; least++) {
            TreeCoverForge one = new TreeCoverForge();
            for (int kind = 0; kind < 4; kind++) {
                one.rule(kind, 1, 0, 0, kind == least ? 0 : 9);
            }
            Check.pushAll(one, 1, 1);
            for (int kind = 0; kind < 4; kind++) {
                Check.due("relative(0, " + kind + ")", one.relative(0, kind), kind == least ? 0 : 9);
            }
        }
    }

    private static void greatestDifference() {
        Check.sentence("9: By how much .. (the largest tree, one kind for nothing, one at 9 for each node)");
        TreeCoverForge forge = Check.with(new int[] {0, 0, 0, 0, 0}, new int[] {1, 0, 0, 0, 9},
                new int[] {0, 5, 0, 0, 0}, new int[] {1, 5, 1, 1, 9}, new int[] {0, 3, 0, 0, 0},
                new int[] {1, 3, 1, 0, 9});
        Check.pushFull(forge, 16);
        Check.pushAll(forge, 0, 1, 5, 0, 0, 1, 5, 0, 0, 1, 5, 0, 0, 1, 5, 0, 3, 0);
        Check.due("relative(39, 0)", forge.relative(39, 0), 0);
        Check.due("relative(39, 1)", forge.relative(39, 1), 360);
        Check.due("relative(38, 1)", forge.relative(38, 1), 351);
        Check.due("relative(30, 1)", forge.relative(30, 1), 279);
        Check.due("relative(0, 1)", forge.relative(0, 1), 9);
        Check.costs(forge, 0, 360, NONE, NONE);
    }

    private static void nodesAsTreesOfTheirOwn() {
        Check.sentence("9: .. of a node of the top tree (as a tree of its own)");
        TreeCoverForge forge = mixed();
        Check.pushAll(forge, 0, 1, 0, 1, 5, 0);
        TreeCoverForge alone = mixed();
        alone.pop();
        Check.pushAll(alone, 0, 1);
        for (int time = 0; time < 2; time++) {
            for (int kind = 0; kind < 4; kind++) {
                int relative = alone.relative(0, kind);
                int choice = alone.choice(0, kind);
                Check.label(forge, 0, kind, relative, choice);
                Check.label(forge, 1, kind, relative, choice);
                Check.label(forge, 2, kind, kind == 3 ? 0 : NONE, kind == 3 ? 3 : NONE);
            }
            forge.pop();
            forge.pop();
            Check.pushAll(forge, 1, 1, 0, 1, 0, 1, 5, 0);
        }
    }

    /** No tree, with rules and without, before any tree came and after it went. */
    private static void withoutTree(String name, Asked asked) {
        TreeCoverForge empty = new TreeCoverForge();
        TreeCoverForge ruled = Check.plain();
        TreeCoverForge popped = Check.plain(0, 1, 3, 0);
        Check.due(name + " with a tree", asked.by(popped).applyAsInt(0, 0) != BAD, true);
        popped.pop();
        for (int node = -1; node <= 2; node++) {
            for (int kind = -1; kind <= 4; kind++) {
                String call = name + "(" + node + ", " + kind + ")";
                Check.due(call + " of a new object", asked.by(empty).applyAsInt(node, kind), BAD);
                Check.due(call + " with rules", asked.by(ruled).applyAsInt(node, kind), BAD);
                Check.due(call + " after pop()", asked.by(popped).applyAsInt(node, kind), BAD);
            }
        }
    }

    /** The top tree has 3 nodes; others lie below it, and one lay above it. */
    private static void ofNoNode(String name, Asked asked) {
        TreeCoverForge forge = Check.plain(0, 1, 0, 1, 5, 0, 0, 1, 0, 1, 5, 0, 0, 1, 3, 0);
        asked.by(forge).applyAsInt(1, 0);
        forge.pop();
        for (int kind = 0; kind < 4; kind++) {
            for (int node : Check.outside(0, 2)) {
                Check.due(name + "(" + node + ", " + kind + ")", asked.by(forge).applyAsInt(node, kind), BAD);
            }
            for (int node : new int[] {-3, -2, 4, 5, 6, 39, 40, 41}) {
                Check.due(name + "(" + node + ", " + kind + ")", asked.by(forge).applyAsInt(node, kind), BAD);
            }
            Check.due(name + "(0, " + kind + ")", asked.by(forge).applyAsInt(0, kind) != BAD, true);
            Check.due(name + "(2, " + kind + ")", asked.by(forge).applyAsInt(2, kind) != BAD, true);
        }
    }

    private static void ofNoKind(String name, Asked asked) {
        TreeCoverForge forge = new TreeCoverForge();
        for (int kind = 0; kind < 4; kind++) {
            forge.rule(kind, 0, 0, 0, 5);
        }
        Check.pushAll(forge, 0, 1);
        for (int kind : Check.outside(0, 3)) {
            Check.due(name + "(0, " + kind + ")", asked.by(forge).applyAsInt(0, kind), BAD);
        }
        for (int kind = 0; kind < 4; kind++) {
            Check.due(name + "(0, " + kind + ")", asked.by(forge).applyAsInt(0, kind) >= 0, true);
        }
    }

    private static void withoutCover(String name, Asked asked) {
        for (int covered = 0; covered < 4; covered++) {
            TreeCoverForge forge = new TreeCoverForge();
            Check.pushAll(forge, 0, 1, 3, 0);
            for (int kind = 0; kind < 4; kind++) {
                Check.due(name + " without rules", asked.by(forge).applyAsInt(0, kind), NONE);
            }
            forge.rule(covered, 0, 0, 0, 5);
            for (int kind = 0; kind < 4; kind++) {
                boolean none = asked.by(forge).applyAsInt(0, kind) == NONE;
                Check.due(name + " of CONST as " + kind, none, kind != covered);
                Check.due(name + " of NEG as " + kind, asked.by(forge).applyAsInt(1, kind), NONE);
            }
            forge.rule(3, 3, (covered + 1) % 4, 0, 5);
            Check.due(name + " of NEG over the wrong kind", asked.by(forge).applyAsInt(1, 3), NONE);
            forge.rule(3, 3, covered, 0, 5);
            Check.due(name + " of NEG over the right kind", asked.by(forge).applyAsInt(1, 3) >= 0, true);
        }
    }

    /** A call with a node and a kind, of a forge that comes later. */
    private interface Asked {
        IntBinaryOperator by(TreeCoverForge forge);
    }

    private static final Asked RELATIVE = forge -> forge::relative;
    private static final Asked CHOICE = forge -> forge::choice;

    private static void relativeWithoutTree() {
        Check.sentence("9: BAD when there is no tree");
        withoutTree("relative", RELATIVE);
    }

    private static void relativeOfNoNode() {
        Check.sentence("9: BAD when there is .. no such node");
        ofNoNode("relative", RELATIVE);
    }

    private static void relativeOfNoKind() {
        Check.sentence("9: BAD when .. kind is not 0 .. 3");
        ofNoKind("relative", RELATIVE);
    }

    private static void relativeWithoutCover() {
        Check.sentence("9: NONE when there is no cover as that kind");
        withoutCover("relative", RELATIVE);
    }

    private static void choiceForNodeAndKind() {
        Check.sentence("10: The choice for a node of the top tree and a kind.");
        TreeCoverForge forge = mixed();
        for (int kind = 0; kind < 3; kind++) {
            Check.due("choice(0, " + kind + ")", forge.choice(0, kind), kind);
            Check.due("choice(1, " + kind + ")", forge.choice(1, kind), kind);
        }
        Check.due("choice(2, 3)", forge.choice(2, 3), 3);
        TreeCoverForge last = new TreeCoverForge();
        for (int number = 0; number < 24; number++) {
            Check.rule(last, number, 0, 0, 0, 0, number < 23 ? 1 : 0);
        }
        Check.pushAll(last, 0, 1);
        Check.due("choice(0, 0), the greatest number", last.choice(0, 0), 23);
    }

    private static void choiceWithoutTree() {
        Check.sentence("10: BAD when there is no tree");
        withoutTree("choice", CHOICE);
    }

    private static void choiceOfNoNode() {
        Check.sentence("10: BAD when there is .. no such node");
        ofNoNode("choice", CHOICE);
    }

    private static void choiceOfNoKind() {
        Check.sentence("10: BAD when .. kind is not 0 .. 3");
        ofNoKind("choice", CHOICE);
    }

    private static void choiceWithoutCover() {
        Check.sentence("10: NONE when there is no cover as that kind");
        withoutCover("choice", CHOICE);
    }

    private static void costForKind() {
        Check.sentence("11: C of the top tree for a kind.");
        TreeCoverForge forge = mixed();
        Check.costs(forge, NONE, NONE, NONE, 16);
        forge.pop();
        Check.pushAll(forge, 0, 1);
        Check.costs(forge, 7, 5, 9, NONE);
        TreeCoverForge free = Check.with(new int[] {0, 0, 0, 0, 0}, new int[] {0, 3, 0, 0, 0});
        Check.pushAll(free, 0, 1, 3, 0);
        Check.costs(free, 0, NONE, NONE, NONE);
    }

    private static void dearestTreeOfAll() {
        Check.sentence("11: C of the top tree for a kind. (40 nodes, four rules at 9 for each)");
        TreeCoverForge forge = Check.with(new int[] {3, 0, 0, 0, 9}, new int[] {3, 5, 0, 0, 9},
                new int[] {3, 4, 0, 0, 9}, new int[] {2, 8, 3, 0, 9}, new int[] {1, 8, 2, 0, 9},
                new int[] {0, 8, 1, 0, 9});
        Check.pushFull(forge, 16);
        Check.pushAll(forge, 0, 1, 5, 0, 0, 1, 5, 0, 0, 1, 5, 0, 0, 1, 5, 0, 4, 0);
        Check.costs(forge, 1440, 1431, 1422, 1413);
    }

    private static void costWithoutTree() {
        Check.sentence("11: BAD when there is no tree");
        TreeCoverForge forge = new TreeCoverForge();
        Check.costs(forge, BAD, BAD, BAD, BAD);
        Check.plainRules(forge);
        Check.costs(forge, BAD, BAD, BAD, BAD);
        Check.pushAll(forge, 0, 1);
        Check.costs(forge, 1, NONE, NONE, NONE);
        forge.pop();
        Check.costs(forge, BAD, BAD, BAD, BAD);
    }

    private static void costOfNoKind() {
        Check.sentence("11: BAD when .. kind is not 0 .. 3");
        TreeCoverForge forge = new TreeCoverForge();
        for (int kind = 0; kind < 4; kind++) {
            forge.rule(kind, 0, 0, 0, kind);
        }
        Check.pushAll(forge, 0, 1);
        for (int kind : Check.outside(0, 3)) {
            Check.due("cost(" + kind + ")", forge.cost(kind), BAD);
        }
        Check.costs(forge, 0, 1, 2, 3);
    }

    private static void costWithoutCover() {
        Check.sentence("11: NONE.");
        TreeCoverForge forge = new TreeCoverForge();
        Check.pushAll(forge, 0, 1);
        Check.costs(forge, NONE, NONE, NONE, NONE);
        forge.rule(2, 0, 0, 0, 0);
        Check.costs(forge, NONE, NONE, 0, NONE);
        Check.pushAll(forge, 3, 0);
        Check.costs(forge, NONE, NONE, NONE, NONE);
    }

    private static void badBeforeNone() {
        Check.sentence("Terms: refusals are tested in the order in which they are named (relative, choice, cost: BAD, then NONE)");
        TreeCoverForge forge = new TreeCoverForge();
        Check.label(forge, 0, 0, BAD, BAD);
        Check.due("cost(0)", forge.cost(0), BAD);
        Check.pushAll(forge, 0, 1);
        Check.label(forge, 0, 0, NONE, NONE);
        Check.label(forge, -1, 0, BAD, BAD);
        Check.label(forge, 1, 0, BAD, BAD);
        Check.label(forge, 0, -1, BAD, BAD);
        Check.label(forge, 0, 4, BAD, BAD);
        Check.label(forge, 1, 4, BAD, BAD);
        Check.due("cost(-1)", forge.cost(-1), BAD);
        Check.due("cost(4)", forge.cost(4), BAD);
        Check.due("cost(0)", forge.cost(0), NONE);
    }

    private static void refusalsChangeNothing() {
        Check.sentence("Terms: A call that is refused changes nothing (relative, choice, cost)");
        TreeCoverForge forge = mixed();
        for (int time = 0; time < 2; time++) {
            Check.label(forge, 2, 3, 0, 3);
            Check.label(forge, 0, 2, 4, 2);
            Check.costs(forge, NONE, NONE, NONE, 16);
            Check.label(forge, 3, 0, BAD, BAD);
            Check.label(forge, 0, 4, BAD, BAD);
            Check.label(forge, 2, 0, NONE, NONE);
            Check.due("cost(4)", forge.cost(4), BAD);
        }
        Check.pile(forge, 1, 3);
    }

    private static void sumOfAllRules() {
        Check.sentence("Terms: Its COST is the sum of the costs of all its rules.");
        TreeCoverForge forge = Check.with(new int[] {1, 0, 0, 0, 1}, new int[] {0, 8, 1, 0, 2},
                new int[] {2, 5, 0, 1, 3}, new int[] {1, 8, 2, 0, 4}, new int[] {3, 3, 1, 0, 0});
        Check.pushAll(forge, 0, 1, 0, 1, 5, 0);
        Check.costs(forge, 1 + 2 + 1 + 3 + 4 + 2, 1 + 2 + 1 + 3 + 4, 1 + 2 + 1 + 3, NONE);
        Check.pushAll(forge, 3, 0);
        Check.costs(forge, NONE, NONE, NONE, 1 + 2 + 1 + 3 + 4 + 0);
    }

    private static void leastNumberedRule() {
        Check.sentence("Terms: the CHOICE is the least numbered rule with which a cover of cost C begins");
        int[][] rules = {{0, 0, 0, 0, 4}, {0, 8, 1, 0, 2}, {0, 0, 0, 0, 3}, {0, 8, 2, 0, 1},
            {0, 0, 0, 0, 3}, {1, 0, 0, 0, 1}, {2, 8, 1, 0, 1}, {2, 0, 0, 0, 2}};
        TreeCoverForge forge = Check.with(rules);
        Check.pushAll(forge, 0, 1);
        Check.costs(forge, 3, 1, 2, NONE);
        Check.label(forge, 0, 0, 2, 1);
        Check.label(forge, 0, 1, 0, 5);
        Check.label(forge, 0, 2, 1, 6);
        for (int first = 0; first < 3; first++) {
            TreeCoverForge three = new TreeCoverForge();
            for (int i = 0; i < 3; i++) {
                tiedRule(three, (first + i) % 3);
            }
            three.rule(1, 0, 0, 0, 2);
            three.rule(2, 0, 0, 0, 3);
            Check.pushAll(three, 0, 1);
            Check.costs(three, 4, 2, 3, NONE);
            Check.label(three, 0, 0, 2, 0);
            three.rule(0, 0, 0, 0, 4);
            Check.label(three, 0, 0, 2, 0);
            three.rule(0, 0, 0, 0, 3);
            Check.label(three, 0, 0, 1, 6);
        }
    }

    private static void tiedRule(TreeCoverForge forge, int which) {
        if (which == 0) {
            forge.rule(0, 0, 0, 0, 4);
        } else {
            forge.rule(0, 8, which, 0, 3 - which);
        }
    }

    private static void neverGoesRound() {
        Check.sentence("Terms: (chain rules cost 1 at least, so this never goes round)");
        for (int kinds = 2; kinds <= 4; kinds++) {
            TreeCoverForge forge = new TreeCoverForge();
            for (int kind = 0; kind < kinds; kind++) {
                Check.rule(forge, kind, kind, 8, (kind + 1) % kinds, 0, 1);
            }
            Check.pushAll(forge, 0, 9);
            Check.costs(forge, NONE, NONE, NONE, NONE);
            Check.due("states()", forge.states(), 1);
            Check.rule(forge, kinds, 1, 0, 0, 0, 3);
            for (int kind = 0; kind < 4; kind++) {
                int steps = kind >= kinds ? NONE : (1 + kinds - kind) % kinds;
                Check.due("cost(" + kind + ")", forge.cost(kind), steps < 0 ? NONE : 3 + steps);
                Check.label(forge, 0, kind, steps, steps < 0 ? NONE : steps == 0 ? kinds : kind);
            }
            Check.due("cover()", forge.cover(), 2);
            Check.due("run()", forge.run(), 9);
        }
    }

    private static void nodesInTheirOrder() {
        Check.sentence("Terms: NODES of a tree are numbered 0, 1, .. : a node's kids and all in them before itself, the left ones before the right ones.");
        TreeCoverForge forge = Check.plain(2, 0, 0, 0, 3, 0, 1, 0, 2, 0, 6, 0, 4, 0, 5, 0, 2, 0, 7, 0);
        int[] operators = {0, 3, 1, 2, 6, 4, 5, 2, 7};
        Check.due("nodes()", forge.nodes(), operators.length);
        for (int node = 0; node < operators.length; node++) {
            Check.label(forge, node, 0, 0, operators[node]);
        }
        Check.label(forge, operators.length, 0, BAD, BAD);
        Check.due("cover()", forge.cover(), operators.length);
        for (int node = 0; node < operators.length; node++) {
            Check.instruction(forge, node, operators[node], node);
        }
    }
}

/** Promise 4 and what the terms say of states, sentence by sentence. */
public final class StatesEdgeTest {
    private static final int DIVERGES = TreeCoverForge.DIVERGES;

    public static void main(String[] args) {
        Check.each(
                StatesEdgeTest::oneWithoutRules,
                StatesEdgeTest::withoutCoverOnlyWhereSomeTreeIs,
                StatesEdgeTest::anyOperators,
                StatesEdgeTest::anyNumbers,
                StatesEdgeTest::anyHeight,
                StatesEdgeTest::anyNumberOfNodes,
                StatesEdgeTest::whetherThereIsACover,
                StatesEdgeTest::howMuchMore,
                StatesEdgeTest::theChoice,
                StatesEdgeTest::agreeingInAll,
                StatesEdgeTest::fortyAndFortyOne,
                StatesEdgeTest::fortyAtOnce,
                StatesEdgeTest::withoutEnd,
                StatesEdgeTest::fewerAgain,
                StatesEdgeTest::statesOfTheRulesOfNow);
    }

    private static void oneWithoutRules() {
        Check.sentence("4: How many states all trees have together (without rules: the one without covers)");
        TreeCoverForge forge = new TreeCoverForge();
        Check.due("states()", forge.states(), 1);
        Check.pushAll(forge, 0, 1, 1, 1, 2, 1);
        Check.due("states() with trees", forge.states(), 1);
        Check.due("chain rules alone", Check.with(new int[] {0, 8, 1, 0, 1},
                new int[] {1, 8, 0, 0, 1}).states(), 1);
        Check.due("no leaf has a rule", Check.with(new int[] {0, 3, 0, 0, 1},
                new int[] {0, 4, 0, 0, 1}, new int[] {0, 5, 0, 0, 1}, new int[] {0, 6, 0, 0, 1},
                new int[] {0, 7, 0, 0, 1}).states(), 1);
    }

    private static void withoutCoverOnlyWhereSomeTreeIs() {
        Check.sentence("Terms: The STATE of a tree says for each kind whether there is a cover (for none, too)");
        TreeCoverForge forge = new TreeCoverForge();
        for (int op = 0; op < 8; op++) {
            Check.rule(forge, op, 0, op, 0, 0, 1);
            Check.due("states() with rules for 0 .. " + op, forge.states(), op < 7 ? op + 2 : 8);
        }
        Check.due("one operator has no rule for its right kid's kind", Check.with(
                new int[] {0, 0, 0, 0, 1}, new int[] {0, 1, 0, 0, 1}, new int[] {0, 2, 0, 0, 1},
                new int[] {0, 3, 0, 0, 1}, new int[] {0, 4, 0, 0, 1}, new int[] {0, 5, 0, 0, 1},
                new int[] {0, 6, 0, 0, 1}, new int[] {0, 7, 0, 1, 1}).states(), 8);
    }

    private static void anyOperators() {
        Check.sentence("4: of any operators");
        for (int op = 0; op < 8; op++) {
            int[][] rules = {{0, 0, 0, 0, 1}, {0, op, 0, 0, 0}};
            Check.due("CONST and " + op, Check.with(rules).states(), op == 0 ? 2 : 3);
        }
        for (int op = 5; op < 8; op++) {
            Check.due("left and right of " + op, Check.with(new int[] {0, 0, 0, 0, 1},
                    new int[] {1, 1, 0, 0, 1}, new int[] {2, op, 0, 1, 1}, new int[] {3, op, 1, 0, 1},
                    new int[] {3, op, 2, 3, 1}).states(), 6);
        }
    }

    private static void anyNumbers() {
        Check.sentence("4: .. and numbers");
        TreeCoverForge forge = Check.with(new int[] {0, 0, 0, 0, 1}, new int[] {0, 1, 0, 0, 1},
                new int[] {0, 2, 0, 0, 1});
        Check.pushAll(forge, 0, Integer.MIN_VALUE, 0, Integer.MAX_VALUE, 1, 0, 1, 7, 2, 0, 2, 7);
        Check.due("states()", forge.states(), 4);
    }

    /**
     * CONST and one operator of one kid over it: kind 1 costs one more with each, until the way of
     * chain rules from kind 0 is cheaper. That makes as many states as the way costs, one at its
     * end, the one of CONST and the one without covers.
     */
    private static TreeCoverForge stair(int op, int... way) {
        TreeCoverForge forge = Check.with(new int[] {0, 0, 0, 0, 0}, new int[] {1, 0, 0, 0, 0},
                new int[] {0, op, 0, 0, 0}, new int[] {1, op, 1, 0, 1});
        int from = 0;
        for (int i = 0; i < way.length; i++) {
            int to = i == way.length - 1 ? 1 : 2 + i;
            Check.rule(forge, 4 + i, to, 8, from, 0, way[i]);
            from = to;
        }
        return forge;
    }

    private static void anyHeight() {
        Check.sentence("4: .. and any height");
        for (int op = 3; op <= 4; op++) {
            Check.due("up to height 3", stair(op, 1).states(), 1 + 3);
            Check.due("up to height 9", stair(op, 7).states(), 7 + 3);
            Check.due("up to height 10", stair(op, 8).states(), 8 + 3);
            Check.due("up to height 11", stair(op, 9).states(), 9 + 3);
            Check.due("up to height 20", stair(op, 9, 9).states(), 18 + 3);
            Check.due("up to height 29", stair(op, 9, 9, 9).states(), 27 + 3);
        }
    }

    /** Kind 1 costs as much more as there are operators, up to 27 of them: 55 nodes. */
    private static void anyNumberOfNodes() {
        Check.sentence("4: all trees (of more than 40 nodes, too)");
        for (int op = 5; op <= 7; op++) {
            Check.due("states()", Check.with(new int[] {0, 0, 0, 0, 0}, new int[] {1, 0, 0, 0, 0},
                    new int[] {0, op, 0, 0, 0}, new int[] {1, op, 1, 1, 1}, new int[] {2, 8, 0, 0, 9},
                    new int[] {3, 8, 2, 0, 9}, new int[] {1, 8, 3, 0, 9}).states(), 27 + 3);
        }
    }

    private static void whetherThereIsACover() {
        Check.sentence("Terms: The STATE of a tree says for each kind whether there is a cover");
        Check.due("NEG over CONST and over VAR", Check.with(new int[] {0, 0, 0, 0, 1},
                new int[] {1, 0, 0, 0, 1}, new int[] {0, 1, 0, 0, 1}, new int[] {0, 3, 0, 0, 1},
                new int[] {1, 3, 1, 0, 1}).states(), 2 + 2 + 1);
        Check.due("the same, kind 1 of VAR too", Check.with(new int[] {0, 0, 0, 0, 1},
                new int[] {1, 0, 0, 0, 1}, new int[] {0, 1, 0, 0, 1}, new int[] {0, 3, 0, 0, 1},
                new int[] {1, 3, 1, 0, 1}, new int[] {1, 1, 0, 0, 1}).states(), 2 + 1 + 1);
    }

    private static void howMuchMore() {
        Check.sentence("Terms: and, if so, how much C is more than the least C of the tree for any kind");
        int[][] unlike = {{0, 0, 0, 0, 1}, {1, 0, 0, 0, 1}, {0, 1, 0, 0, 1}, {1, 1, 0, 0, 2},
            {2, 3, 0, 0, 1}, {3, 3, 1, 0, 1}};
        Check.due("NEG over CONST and over VAR", Check.with(unlike).states(), 2 + 2 + 1);
        int[][] alike = {{0, 0, 0, 0, 0}, {1, 0, 0, 0, 5}, {0, 1, 0, 0, 4}, {1, 1, 0, 0, 9},
            {2, 3, 0, 0, 1}, {3, 3, 1, 0, 1}};
        Check.due("NEG over dearer VAR", Check.with(alike).states(), 2 + 1 + 1);
    }

    private static void theChoice() {
        Check.sentence("Terms: .. and the choice");
        int[][] rules = {{0, 0, 0, 0, 1}, {1, 1, 0, 0, 1}, {2, 3, 0, 0, 1}, {2, 3, 1, 0, 1}};
        Check.due("NEG over CONST and over VAR by two rules", Check.with(rules).states(), 2 + 2 + 1);
        int[][] tied = {{0, 0, 0, 0, 1}, {1, 0, 0, 0, 1}, {1, 1, 0, 0, 1}, {2, 3, 0, 0, 1}, {2, 3, 1, 0, 1}};
        Check.due("CONST has both kinds: the least rule", Check.with(tied).states(), 2 + 2 + 1);
        int[][] least = {{0, 0, 0, 0, 1}, {1, 0, 0, 0, 1}, {1, 1, 0, 0, 1}, {2, 3, 1, 0, 1}, {2, 3, 0, 0, 1}};
        Check.due("CONST has both kinds: the least rule is VAR's", Check.with(least).states(), 2 + 1 + 1);
    }

    private static void agreeingInAll() {
        Check.sentence("Terms: Trees have one state if they agree in all that.");
        Check.due("NEG over dear and cheap kids", Check.with(new int[] {0, 0, 0, 0, 9},
                new int[] {0, 1, 0, 0, 0}, new int[] {0, 3, 0, 0, 9}).states(), 2 + 1 + 1);
        Check.due("rules that are never the choice", Check.with(new int[] {0, 0, 0, 0, 1},
                new int[] {0, 0, 0, 0, 1}, new int[] {0, 0, 0, 0, 9}).states(), 2);
    }

    private static int[][] steps(int cost) {
        return new int[][] {{0, 0, 0, 0, 0}, {3, 0, 0, 0, 0}, {0, 3, 0, 0, 0}, {3, 3, 3, 0, 1},
            {0, 4, 0, 0, 0}, {3, 4, 3, 0, 1}, {1, 8, 0, 0, 9}, {3, 8, 1, 0, cost}};
    }

    /** As with one operator of one kid, but each state twice, with NEG and with TWICE at the root. */
    private static void fortyAndFortyOne() {
        Check.sentence("4: DIVERGES when there are more than 40.");
        TreeCoverForge forge = Check.with(steps(8));
        Check.due("states()", forge.states(), 38);
        Check.rule(forge, 8, 0, 1, 0, 0, 0);
        Check.due("states()", forge.states(), 39);
        Check.rule(forge, 9, 0, 2, 0, 0, 0);
        Check.due("states()", forge.states(), 40);
        Check.due("states() again", forge.states(), 40);
        Check.rule(forge, 10, 0, 5, 0, 0, 0);
        Check.due("states()", forge.states(), DIVERGES);
        Check.due("states() again", forge.states(), DIVERGES);
        Check.rule(forge, 11, 0, 6, 0, 0, 0);
        Check.due("states()", forge.states(), DIVERGES);
    }

    private static void fortyAtOnce() {
        Check.sentence("4: DIVERGES when there are more than 40. (asked for once alone)");
        Check.due("forty", Check.with(steps(9)).states(), 40);
        int[][] forty = steps(9);
        int[][] more = new int[forty.length + 1][];
        System.arraycopy(forty, 0, more, 0, forty.length);
        for (int op = 1; op <= 2; op++) {
            more[forty.length] = new int[] {0, op, 0, 0, 0};
            Check.due("forty-one with a leaf", Check.with(more).states(), DIVERGES);
        }
        for (int op = 5; op <= 7; op++) {
            more[forty.length] = new int[] {0, op, 0, 0, 0};
            Check.due("forty-one with " + op, Check.with(more).states(), DIVERGES);
        }
    }

    private static void withoutEnd() {
        Check.sentence("4: DIVERGES when there are more than 40. (there is no end of them)");
        for (int op = 3; op <= 4; op++) {
            Check.due("one more with each " + op, stair(op).states(), DIVERGES);
        }
        for (int op = 5; op <= 7; op++) {
            Check.due("twice as much with each " + op, Check.with(new int[] {0, 0, 0, 0, 0},
                    new int[] {1, 0, 0, 0, 9}, new int[] {0, op, 0, 0, 0},
                    new int[] {1, op, 1, 1, 9}).states(), DIVERGES);
        }
    }

    private static void fewerAgain() {
        Check.sentence("4: How many states .. (after DIVERGES)");
        TreeCoverForge forge = stair(3);
        Check.pushAll(forge, 0, 1, 3, 0);
        Check.due("states()", forge.states(), DIVERGES);
        Check.costs(forge, 0, 1);
        Check.due("cover()", forge.cover(), 2);
        Check.rule(forge, 4, 1, 8, 0, 0, 5);
        Check.due("states()", forge.states(), 5 + 3);
        Check.rule(forge, 5, 1, 8, 0, 0, 1);
        Check.due("states()", forge.states(), 1 + 3);
        forge.clear();
        Check.due("states()", forge.states(), 1);
    }

    private static void statesOfTheRulesOfNow() {
        Check.sentence("4: How many states .. (with the rules of now, whatever was asked before)");
        TreeCoverForge forge = new TreeCoverForge();
        Check.rule(forge, 0, 0, 0, 0, 0, 1);
        Check.due("states()", forge.states(), 2);
        Check.rule(forge, TreeCoverForge.BAD, 0, 1, 1, 0, 1);
        Check.due("states()", forge.states(), 2);
        Check.rule(forge, 1, 0, 1, 0, 0, 1);
        Check.due("states()", forge.states(), 3);
        forge.clear();
        Check.rule(forge, 0, 0, 2, 0, 0, 1);
        Check.due("states()", forge.states(), 2);
    }
}

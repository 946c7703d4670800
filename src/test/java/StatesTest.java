/** Promise 4: states. */
public final class StatesTest {
    public static void main(String[] args) {
        Check.each(
                StatesTest::leavesAndOperators,
                StatesTest::choicesTellStatesApart,
                StatesTest::numbersDoNotTellStatesApart,
                StatesTest::sidesTellStatesApart,
                StatesTest::fortyAndMore,
                StatesTest::foundSets,
                StatesTest::rulesThatGrow,
                StatesTest::treesAndCodeDoNotCount);
    }

    private static void leavesAndOperators() {
        TreeCoverForge forge = new TreeCoverForge();
        Check.due("no rules: the state without covers", forge.states(), 1);
        for (int op = 0; op < 8; op++) {
            forge.rule(0, op, 0, 0, 1);
            int withoutCovers = op < 7 ? 1 : 0;
            Check.due("operators 0 .. " + op, forge.states(), op + 1 + withoutCovers);
        }
        for (int op = 0; op < 3; op++) {
            Check.due("one leaf " + op, Check.with(new int[] {0, op, 0, 0, 5}).states(), 2);
        }
        Check.due("all leaves, no other operator", Check.with(new int[] {0, 0, 0, 0, 1},
                new int[] {0, 1, 0, 0, 1}, new int[] {0, 2, 0, 0, 1}).states(), 4);
        Check.due("rules that cover nothing", Check.with(new int[] {0, 5, 0, 0, 1},
                new int[] {0, 8, 1, 0, 1}, new int[] {1, 8, 0, 0, 1}, new int[] {0, 3, 1, 0, 1}).states(), 1);
    }

    private static void choicesTellStatesApart() {
        Check.due("one rule twice", Check.with(new int[] {0, 0, 0, 0, 1}, new int[] {0, 0, 0, 0, 1}).states(), 2);
        Check.due("two kinds of one leaf", Check.with(new int[] {0, 0, 0, 0, 1},
                new int[] {1, 0, 0, 0, 4}).states(), 2);
        Check.due("a chain rule beside a leaf's", Check.with(new int[] {0, 0, 0, 0, 1},
                new int[] {1, 1, 0, 0, 1}, new int[] {0, 8, 1, 0, 1}).states(), 3);
        Check.due("the same costs by other rules", Check.with(new int[] {0, 0, 0, 0, 0},
                new int[] {0, 4, 0, 0, 0}, new int[] {0, 4, 1, 0, 0}, new int[] {1, 0, 0, 0, 0}).states(), 3);
        Check.due("a tie takes the least rule", Check.with(new int[] {0, 0, 0, 0, 0},
                new int[] {1, 0, 0, 0, 0}, new int[] {1, 3, 1, 0, 0}, new int[] {0, 3, 0, 0, 0},
                new int[] {0, 8, 1, 0, 1}).states(), 3);
    }

    private static void numbersDoNotTellStatesApart() {
        TreeCoverForge forge = Check.with(new int[] {0, 0, 0, 0, 1}, new int[] {0, 1, 0, 0, 1});
        Check.due("states()", forge.states(), 3);
        Check.pushAll(forge, 0, 1, 0, 2, 1, 3, 1, 4);
        Check.due("states() with trees", forge.states(), 3);
    }

    private static void sidesTellStatesApart() {
        Check.due("the left kid as another kind", Check.with(new int[] {0, 0, 0, 0, 0},
                new int[] {1, 1, 0, 0, 0}, new int[] {2, 6, 0, 1, 0}, new int[] {3, 6, 1, 0, 0}).states(), 5);
        Check.due("operators over higher trees on either side", Check.with(new int[] {0, 0, 0, 0, 0},
                new int[] {1, 5, 0, 0, 0}, new int[] {2, 5, 0, 1, 0}, new int[] {3, 5, 2, 0, 0}).states(), 5);
        Check.due("operators over a higher tree twice", Check.with(new int[] {0, 0, 0, 0, 0},
                new int[] {1, 7, 0, 0, 0}, new int[] {2, 7, 1, 1, 0}).states(), 4);
    }

    /**
     * Over CONST every NEG and TWICE makes kind 3 cost one more than kind 0, until the chain rules
     * by way of kind 1 are as cheap at 18 and then cheaper: 19 states with NEG at the root, as many
     * with TWICE, one of CONST and the one without covers.
     */
    private static void fortyAndMore() {
        TreeCoverForge forge = Check.with(new int[] {0, 0, 0, 0, 0}, new int[] {3, 0, 0, 0, 0},
                new int[] {0, 3, 0, 0, 0}, new int[] {3, 3, 3, 0, 1}, new int[] {0, 4, 0, 0, 0},
                new int[] {3, 4, 3, 0, 1}, new int[] {1, 8, 0, 0, 9}, new int[] {3, 8, 1, 0, 9});
        Check.due("forty", forge.states(), 40);
        Check.due("forty again", forge.states(), 40);
        Check.due("a rule that adds a state", forge.rule(0, 1, 0, 0, 0), 8);
        Check.due("forty-one", forge.states(), TreeCoverForge.DIVERGES);
        Check.due("forty-one again", forge.states(), TreeCoverForge.DIVERGES);
        Check.due("a rule that takes states away", forge.rule(3, 8, 0, 0, 5), 9);
        Check.due("far fewer", forge.states(), 2 * 6 + 3);
        forge.clear();
        Check.due("after clear", forge.states(), 1);
    }

    /** Sets of rules with binary operators, found by search and counted by the model. */
    private static void foundSets() {
        int[][] forty = {{0, 0, 0, 0, 0}, {1, 0, 0, 0, 6}, {2, 0, 0, 0, 4}, {1, 5, 2, 2, 1},
            {0, 5, 2, 2, 9}, {2, 8, 0, 0, 7}, {2, 5, 0, 1, 3}, {1, 3, 2, 0, 4}};
        int[][] fortyOne = {{0, 0, 0, 0, 0}, {1, 0, 0, 0, 0}, {0, 7, 1, 1, 0}, {1, 7, 0, 0, 6},
            {1, 6, 1, 0, 9}, {1, 7, 1, 0, 5}, {1, 7, 1, 1, 9}, {1, 1, 0, 0, 2}};
        int[][] thirtyNine = {{0, 0, 0, 0, 8}, {1, 0, 0, 0, 7}, {1, 6, 0, 0, 4}, {0, 7, 1, 1, 2},
            {1, 0, 0, 0, 9}, {1, 2, 0, 0, 3}, {1, 7, 0, 1, 3}, {1, 7, 1, 1, 9}, {0, 6, 1, 0, 6},
            {1, 4, 0, 0, 5}};
        Check.due("forty", Check.with(forty).states(), 40);
        Check.due("forty-one", Check.with(fortyOne).states(), TreeCoverForge.DIVERGES);
        Check.due("thirty-nine", Check.with(thirtyNine).states(), 39);
    }

    private static void rulesThatGrow() {
        Check.due("one more with each NEG", Check.with(new int[] {0, 0, 0, 0, 0}, new int[] {1, 0, 0, 0, 0},
                new int[] {0, 3, 0, 0, 0}, new int[] {1, 3, 1, 0, 1}).states(), TreeCoverForge.DIVERGES);
        Check.due("twice as much with each MUL", Check.with(new int[] {0, 0, 0, 0, 0},
                new int[] {1, 0, 0, 0, 9}, new int[] {0, 7, 0, 0, 0}, new int[] {1, 7, 1, 1, 9}).states(),
                TreeCoverForge.DIVERGES);
        Check.due("all kinds alike dear", Check.with(new int[] {0, 0, 0, 0, 9}, new int[] {1, 0, 0, 0, 9},
                new int[] {0, 7, 0, 0, 9}, new int[] {1, 7, 1, 1, 9}).states(), 3);
    }

    private static void treesAndCodeDoNotCount() {
        TreeCoverForge forge = Check.with(new int[] {0, 0, 0, 0, 1}, new int[] {0, 5, 0, 0, 1});
        Check.pushAll(forge, 0, 1, 0, 1, 5, 0);
        Check.due("cover()", forge.cover(), 3);
        Check.due("states()", forge.states(), 3);
        Check.due("cost(0) after states()", forge.cost(0), 3);
        Check.due("run() after states()", forge.run(), 2);
        Check.due("a refused rule", forge.rule(0, 9, 0, 0, 0), TreeCoverForge.BAD);
        Check.due("states() after it", forge.states(), 3);
    }
}

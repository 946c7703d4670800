/** Promises 9 to 11: relative, choice, cost. */
public final class LabelTest {
    private static final int BAD = TreeCoverForge.BAD;
    private static final int NONE = TreeCoverForge.NONE;

    public static void main(String[] args) {
        Check.each(
                LabelTest::noTree,
                LabelTest::outOfBounds,
                LabelTest::costsOfAllKinds,
                LabelTest::nodesAreTreesOfTheirOwn,
                LabelTest::leastNumberedRule,
                LabelTest::chainsThroughAllKinds,
                LabelTest::rulesOfNowCount,
                LabelTest::onlyTheTopTree,
                LabelTest::dearestTree);
    }

    private static void noTree() {
        TreeCoverForge forge = new TreeCoverForge();
        Check.plainRules(forge);
        for (int kind = -1; kind <= 4; kind++) {
            Check.label(forge, 0, kind, BAD, BAD);
            Check.due("cost(" + kind + ")", forge.cost(kind), BAD);
        }
        Check.pushAll(forge, 0, 1);
        Check.label(forge, 0, 0, 0, 0);
        forge.pop();
        Check.label(forge, 0, 0, BAD, BAD);
        Check.costs(forge, BAD, BAD, BAD, BAD);
    }

    private static void outOfBounds() {
        TreeCoverForge forge = new TreeCoverForge();
        Check.plainRules(forge);
        Check.pushAll(forge, 0, 1, 0, 1, 0, 1, 5, 0);
        for (int node : new int[] {-1, 3, 4, Integer.MIN_VALUE, Integer.MAX_VALUE}) {
            for (int kind = 0; kind < 4; kind++) {
                Check.label(forge, node, kind, BAD, BAD);
            }
        }
        for (int kind : new int[] {-1, 4, Integer.MIN_VALUE, Integer.MAX_VALUE}) {
            Check.label(forge, 0, kind, BAD, BAD);
            Check.label(forge, 2, kind, BAD, BAD);
            Check.label(forge, 3, kind, BAD, BAD);
            Check.due("cost(" + kind + ")", forge.cost(kind), BAD);
        }
        Check.label(forge, 2, 0, 0, 5);
        Check.label(forge, 2, 1, NONE, NONE);
        Check.costs(forge, 3, NONE, NONE, NONE);
    }

    private static void costsOfAllKinds() {
        TreeCoverForge forge = new TreeCoverForge();
        forge.rule(0, 0, 0, 0, 7);
        forge.rule(1, 0, 0, 0, 5);
        forge.rule(2, 0, 0, 0, 9);
        Check.pushAll(forge, 0, 1);
        Check.costs(forge, 7, 5, 9, NONE);
        Check.label(forge, 0, 0, 2, 0);
        Check.label(forge, 0, 1, 0, 1);
        Check.label(forge, 0, 2, 4, 2);
        Check.label(forge, 0, 3, NONE, NONE);
        forge.rule(3, 6, 1, 2, 3);
        forge.rule(3, 6, 0, 1, 6);
        forge.rule(0, 6, 3, 1, 0);
        Check.pushAll(forge, 0, 1, 6, 0);
        Check.costs(forge, NONE, NONE, NONE, 17);
        Check.label(forge, 2, 3, 0, 3);
        Check.label(forge, 2, 0, NONE, NONE);
        Check.pushAll(forge, 0, 1, 6, 0);
        Check.costs(forge, 22, NONE, NONE, NONE);
        Check.label(forge, 4, 0, 0, 5);
        Check.pushAll(forge, 3, 0);
        Check.costs(forge, NONE, NONE, NONE, NONE);
    }

    private static void nodesAreTreesOfTheirOwn() {
        TreeCoverForge forge = new TreeCoverForge();
        forge.rule(0, 0, 0, 0, 9);
        forge.rule(1, 0, 0, 0, 4);
        forge.rule(0, 1, 0, 0, 3);
        forge.rule(1, 3, 0, 0, 2);
        forge.rule(0, 3, 1, 0, 8);
        forge.rule(2, 7, 0, 1, 1);
        forge.rule(3, 7, 1, 0, 1);
        Check.pushAll(forge, 2, 0, 0, 6, 3, 0, 1, 1, 3, 0, 7, 0);
        Check.label(forge, 0, 0, 5, 0);
        Check.label(forge, 0, 1, 0, 1);
        Check.label(forge, 1, 0, 1, 4);
        Check.label(forge, 1, 1, 0, 3);
        Check.label(forge, 2, 0, 0, 2);
        Check.label(forge, 2, 1, NONE, NONE);
        Check.label(forge, 3, 0, NONE, NONE);
        Check.label(forge, 3, 1, 0, 3);
        Check.label(forge, 4, 2, 0, 5);
        Check.label(forge, 4, 3, NONE, NONE);
        Check.costs(forge, NONE, NONE, 18, NONE);
    }

    private static void leastNumberedRule() {
        TreeCoverForge forge = new TreeCoverForge();
        forge.rule(0, 0, 0, 0, 6);
        forge.rule(0, 8, 1, 0, 3);
        forge.rule(0, 0, 0, 0, 5);
        forge.rule(0, 8, 2, 0, 1);
        forge.rule(0, 0, 0, 0, 5);
        forge.rule(1, 0, 0, 0, 2);
        forge.rule(2, 8, 1, 0, 2);
        forge.rule(2, 0, 0, 0, 4);
        Check.pushAll(forge, 0, 1);
        Check.costs(forge, 5, 2, 4, NONE);
        Check.label(forge, 0, 0, 3, 1);
        Check.label(forge, 0, 1, 0, 5);
        Check.label(forge, 0, 2, 2, 6);
        forge.clear();
        forge.rule(1, 4, 2, 0, 1);
        forge.rule(2, 0, 0, 0, 3);
        forge.rule(1, 4, 3, 0, 2);
        forge.rule(3, 0, 0, 0, 2);
        forge.rule(1, 4, 3, 0, 2);
        Check.pushAll(forge, 4, 0);
        Check.label(forge, 1, 1, 0, 0);
        Check.costs(forge, NONE, 4, NONE, NONE);
    }

    /** The chain rules stand so that no single pass over them in their order settles anything. */
    private static void chainsThroughAllKinds() {
        TreeCoverForge forge = new TreeCoverForge();
        forge.rule(0, 8, 1, 0, 1);
        forge.rule(1, 8, 2, 0, 2);
        forge.rule(2, 8, 3, 0, 3);
        forge.rule(3, 8, 0, 0, 4);
        forge.rule(0, 1, 0, 0, 9);
        forge.rule(3, 1, 0, 0, 1);
        forge.rule(0, 1, 0, 0, 7);
        Check.pushAll(forge, 1, 0);
        Check.costs(forge, 7, 6, 4, 1);
        Check.label(forge, 0, 0, 6, 0);
        Check.label(forge, 0, 1, 5, 1);
        Check.label(forge, 0, 2, 3, 2);
        Check.label(forge, 0, 3, 0, 5);
        forge.rule(3, 1, 0, 0, 0);
        Check.costs(forge, 6, 5, 3, 0);
        Check.label(forge, 0, 0, 6, 0);
        Check.label(forge, 0, 3, 0, 7);
        TreeCoverForge tied = new TreeCoverForge();
        tied.rule(0, 8, 1, 0, 1);
        tied.rule(0, 0, 0, 0, 6);
        tied.rule(1, 8, 2, 0, 2);
        tied.rule(1, 0, 0, 0, 5);
        tied.rule(2, 8, 3, 0, 3);
        tied.rule(2, 0, 0, 0, 3);
        tied.rule(3, 0, 0, 0, 0);
        Check.pushAll(tied, 0, 0);
        Check.costs(tied, 6, 5, 3, 0);
        Check.label(tied, 0, 0, 6, 0);
        Check.label(tied, 0, 1, 5, 2);
        Check.label(tied, 0, 2, 3, 4);
    }

    private static void rulesOfNowCount() {
        TreeCoverForge forge = new TreeCoverForge();
        Check.pushAll(forge, 0, 1, 3, 0);
        Check.costs(forge, NONE, NONE, NONE, NONE);
        forge.rule(0, 0, 0, 0, 9);
        Check.label(forge, 0, 0, 0, 0);
        Check.costs(forge, NONE, NONE, NONE, NONE);
        forge.rule(0, 3, 0, 0, 9);
        Check.costs(forge, 18, NONE, NONE, NONE);
        forge.rule(0, 0, 0, 0, 1);
        Check.costs(forge, 10, NONE, NONE, NONE);
        Check.label(forge, 0, 0, 0, 2);
        forge.rule(2, 8, 0, 0, 6);
        Check.label(forge, 1, 2, 6, 3);
        Check.due("a refused rule", forge.rule(0, 0, 0, 0, -1), BAD);
        Check.costs(forge, 10, NONE, 16, NONE);
        forge.clear();
        Check.label(forge, 0, 0, NONE, NONE);
        Check.label(forge, 1, 2, NONE, NONE);
        Check.costs(forge, NONE, NONE, NONE, NONE);
        forge.rule(1, 0, 0, 0, 2);
        Check.label(forge, 0, 1, 0, 0);
    }

    private static void onlyTheTopTree() {
        TreeCoverForge forge = new TreeCoverForge();
        for (int op = 0; op < 8; op++) {
            forge.rule(0, op, 0, 0, op + 1);
        }
        Check.pushAll(forge, 0, 1, 1, 1, 7, 0, 2, 1);
        Check.costs(forge, 3);
        Check.label(forge, 0, 0, 0, 2);
        Check.label(forge, 1, 0, BAD, BAD);
        forge.pop();
        Check.costs(forge, 11);
        Check.label(forge, 1, 0, 0, 1);
        Check.label(forge, 2, 0, 0, 7);
        forge.pop();
        Check.pushAll(forge, 2, 1, 3, 0, 4, 0);
        Check.costs(forge, 12);
        Check.label(forge, 0, 0, 0, 2);
        Check.label(forge, 1, 0, 0, 3);
        Check.label(forge, 2, 0, 0, 4);
        Check.label(forge, 3, 0, BAD, BAD);
        Check.pushAll(forge, 1, 1, 6, 0);
        Check.costs(forge, 21);
        Check.label(forge, 2, 0, 0, 4);
        Check.label(forge, 3, 0, 0, 1);
        Check.label(forge, 4, 0, 0, 6);
    }

    /** All rules at cost 9, three chain rules at every node, 39 nodes (a binary tree has an odd number). */
    private static void dearestTree() {
        TreeCoverForge forge = new TreeCoverForge();
        forge.rule(3, 0, 0, 0, 9);
        forge.rule(3, 5, 0, 0, 9);
        forge.rule(2, 8, 3, 0, 9);
        forge.rule(1, 8, 2, 0, 9);
        forge.rule(0, 8, 1, 0, 9);
        Check.pushFull(forge, 16);
        Check.pushAll(forge, 0, 1, 5, 0, 0, 1, 5, 0, 0, 1, 5, 0, 0, 1, 5, 0);
        Check.due("nodes()", forge.nodes(), 39);
        Check.costs(forge, 39 * 36, 39 * 36 - 9, 39 * 36 - 18, 39 * 36 - 27);
        Check.label(forge, 38, 0, 27, 4);
        Check.due("cover()", forge.cover(), 39 * 4);
        Check.due("run()", forge.run(), 20);
    }
}

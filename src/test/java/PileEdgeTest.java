/** Promises 5 to 8, sentence by sentence: push, pop, trees, nodes. */
public final class PileEdgeTest {
    private static final int BAD = TreeCoverForge.BAD;
    private static final int FULL = TreeCoverForge.FULL;

    public static void main(String[] args) {
        Check.each(
                PileEdgeTest::leafWithNumber,
                PileEdgeTest::operatorOverTopTree,
                PileEdgeTest::operatorOverTwoTopTrees,
                PileEdgeTest::howManyTreesLieThere,
                PileEdgeTest::operatorOutOfBounds,
                PileEdgeTest::numberOutOfBounds,
                PileEdgeTest::numbersOfOthers,
                PileEdgeTest::notAsManyTrees,
                PileEdgeTest::fullAtFortyNodes,
                PileEdgeTest::fortiethNodeOfEachSort,
                PileEdgeTest::fortyNodesTogether,
                PileEdgeTest::higherThanTen,
                PileEdgeTest::highLeftKid,
                PileEdgeTest::highRightKid,
                PileEdgeTest::leavesBesideHighTrees,
                PileEdgeTest::badBeforeFortyNodes,
                PileEdgeTest::badBeforeTooHigh,
                PileEdgeTest::refusedPushTakesNothing,
                PileEdgeTest::popTakesTheTopTree,
                PileEdgeTest::popOfNone,
                PileEdgeTest::popMakesRoom,
                PileEdgeTest::treesFromNoneToForty,
                PileEdgeTest::nodesFromNoneToForty);
    }

    private static TreeCoverForge leaves(int count) {
        TreeCoverForge forge = new TreeCoverForge();
        for (int i = 0; i < count; i++) {
            Check.push(forge, i + 1, 0, i);
        }
        return forge;
    }

    private static void leafWithNumber() {
        Check.sentence("5: Puts a tree on the pile: a leaf with the number v");
        TreeCoverForge forge = new TreeCoverForge();
        int trees = 0;
        for (int v : Check.outside(0, 7)) {
            Check.push(forge, ++trees, 0, v);
            Check.due("value()", forge.value(), v);
            Check.pile(forge, trees, 1);
        }
        for (int v = 0; v <= 7; v++) {
            forge.set(v, -v - 1);
            Check.push(forge, ++trees, 1, v);
            Check.due("value()", forge.value(), -v - 1);
            Check.push(forge, ++trees, 2, v);
            Check.due("value()", forge.value(), 100 + v);
            Check.pile(forge, trees, 1);
        }
    }

    private static void operatorOverTopTree() {
        Check.sentence("5: or an operator over the top tree");
        for (int op = 3; op <= 4; op++) {
            TreeCoverForge forge = leaves(3);
            Check.push(forge, 3, op, 0);
            Check.pile(forge, 3, 2);
            Check.due("value()", forge.value(), op == 3 ? -2 : 4);
            forge.pop();
            Check.pile(forge, 2, 1);
            Check.due("value()", forge.value(), 1);
        }
    }

    private static void operatorOverTwoTopTrees() {
        Check.sentence("5: or over the two top trees, the top one as the right kid, which it takes from there");
        int[] values = {1 + 2, 1 - 2, 1 * 2};
        for (int op = 5; op <= 7; op++) {
            TreeCoverForge forge = leaves(3);
            Check.push(forge, 2, op, 0);
            Check.pile(forge, 2, 3);
            Check.due("value()", forge.value(), values[op - 5]);
            forge.pop();
            Check.pile(forge, 1, 1);
            Check.due("value()", forge.value(), 0);
        }
        TreeCoverForge sides = Check.with(new int[] {0, 0, 0, 0, 1}, new int[] {1, 1, 0, 0, 1},
                new int[] {2, 6, 0, 1, 1}, new int[] {3, 6, 1, 0, 1});
        Check.pushAll(sides, 0, 5, 1, 0, 6, 0);
        Check.costs(sides, TreeCoverForge.NONE, TreeCoverForge.NONE, 3, TreeCoverForge.NONE);
    }

    private static void howManyTreesLieThere() {
        Check.sentence("5: Answers how many trees lie there then.");
        TreeCoverForge forge = leaves(4);
        for (int op = 0; op <= 2; op++) {
            Check.push(forge, 5 + op, op, 0);
        }
        Check.push(forge, 7, 3, 0);
        Check.push(forge, 7, 4, 0);
        for (int trees = 6; trees >= 1; trees--) {
            Check.push(forge, trees, 5 + trees % 3, 0);
        }
        Check.pile(forge, 1, 7 + 2 + 6);
    }

    private static void operatorOutOfBounds() {
        Check.sentence("5: BAD when op is not 0 .. 7");
        for (int op : Check.outside(0, 7)) {
            TreeCoverForge forge = new TreeCoverForge();
            Check.push(forge, BAD, op, 0);
            Check.pile(forge, 0, 0);
            Check.pushAll(forge, 0, 1, 0, 2, 0, 3);
            Check.push(forge, BAD, op, 0);
            Check.push(forge, BAD, op, 7);
            Check.pile(forge, 3, 1);
            Check.due("value()", forge.value(), 3);
        }
        for (int op = 0; op <= 7; op++) {
            Check.push(leaves(2), op < 3 ? 3 : op < 5 ? 2 : 1, op, 0);
        }
    }

    private static void numberOutOfBounds() {
        Check.sentence("5: BAD when .. v is not 0 .. 7 for VAR or PLACE");
        for (int op = 1; op <= 2; op++) {
            TreeCoverForge forge = leaves(1);
            for (int v : Check.outside(0, 7)) {
                Check.push(forge, BAD, op, v);
                Check.pile(forge, 1, 1);
            }
            for (int v = 0; v <= 7; v++) {
                Check.push(forge, 2 + v, op, v);
            }
        }
    }

    private static void numbersOfOthers() {
        Check.sentence("5: .. for VAR or PLACE (and for no other)");
        for (int v : Check.outside(0, 7)) {
            TreeCoverForge forge = leaves(1);
            Check.push(forge, 2, 0, v);
            Check.push(forge, 2, 3, v);
            Check.push(forge, 2, 4, v);
            Check.push(forge, 1, 5, v);
            Check.due("value()", forge.value(), -v - v);
            Check.pushAll(forge, 0, 1);
            Check.push(forge, 1, 6, v);
            Check.pushAll(forge, 0, 3);
            Check.push(forge, 1, 7, v);
            Check.due("value()", forge.value(), (-v - v - 1) * 3);
        }
    }

    private static void notAsManyTrees() {
        Check.sentence("5: BAD when .. there are not as many trees");
        TreeCoverForge forge = new TreeCoverForge();
        for (int op = 3; op <= 7; op++) {
            Check.push(forge, BAD, op, 0);
        }
        Check.pile(forge, 0, 0);
        Check.push(forge, 1, 0, 5);
        for (int op = 5; op <= 7; op++) {
            Check.push(forge, BAD, op, 0);
        }
        Check.pile(forge, 1, 1);
        Check.push(forge, 1, 3, 0);
        Check.push(forge, 1, 4, 0);
        for (int op = 5; op <= 7; op++) {
            Check.push(forge, BAD, op, 0);
        }
        Check.pile(forge, 1, 3);
        Check.due("value()", forge.value(), -10);
        for (int op = 5; op <= 7; op++) {
            Check.push(forge, 2, 0, 1);
            Check.push(forge, 1, op, 0);
            Check.push(forge, BAD, op, 0);
        }
    }

    private static void fullAtFortyNodes() {
        Check.sentence("5: FULL when the trees have 40 nodes together");
        TreeCoverForge forge = leaves(40);
        for (int op = 0; op <= 7; op++) {
            Check.push(forge, FULL, op, 0);
            Check.pile(forge, 40, 1);
            Check.due("value()", forge.value(), 39);
        }
    }

    private static void fortiethNodeOfEachSort() {
        Check.sentence("5: FULL when the trees have 40 nodes together (39 are not so many)");
        for (int op = 0; op <= 7; op++) {
            TreeCoverForge forge = leaves(39);
            int trees = op < 3 ? 40 : op < 5 ? 39 : 38;
            Check.push(forge, trees, op, 0);
            for (int next = 0; next <= 7; next++) {
                Check.push(forge, FULL, next, 0);
            }
            Check.pile(forge, trees, op < 3 ? 1 : op < 5 ? 2 : 3);
        }
    }

    private static void fortyNodesTogether() {
        Check.sentence("5: .. 40 nodes together (in few trees, too)");
        TreeCoverForge forge = new TreeCoverForge();
        for (int tree = 0; tree < 4; tree++) {
            Check.pushHigh(forge, 10);
        }
        Check.pile(forge, 4, 10);
        for (int op = 0; op <= 7; op++) {
            Check.push(forge, FULL, op, 0);
        }
        TreeCoverForge one = new TreeCoverForge();
        Check.pushFull(one, 16);
        Check.pushAll(one, 0, 1, 5, 0, 0, 1, 5, 0, 0, 1, 5, 0, 0, 1, 5, 0);
        Check.pile(one, 1, 39);
        Check.push(one, 1, 4, 0);
        Check.pile(one, 1, 40);
        for (int op = 0; op <= 4; op++) {
            Check.push(one, FULL, op, 0);
        }
        Check.due("value()", one.value(), 40);
    }

    private static void higherThanTen() {
        Check.sentence("5: FULL when .. the new tree would be higher than 10");
        for (int op = 3; op <= 4; op++) {
            TreeCoverForge forge = new TreeCoverForge();
            Check.pushHigh(forge, 9);
            Check.push(forge, 1, op, 0);
            Check.push(forge, FULL, 3, 0);
            Check.push(forge, FULL, 4, 0);
            Check.pile(forge, 1, 10);
            Check.due("value()", forge.value(), op == 3 ? -1 : 2);
        }
    }

    private static void highLeftKid() {
        Check.sentence("Terms: The HEIGHT of a leaf is 1, of another tree one more than that of its highest kid. (the left one)");
        for (int op = 5; op <= 7; op++) {
            TreeCoverForge forge = new TreeCoverForge();
            Check.pushHigh(forge, 9);
            Check.pushHigh(forge, 1);
            Check.push(forge, 1, op, 0);
            Check.pile(forge, 1, 11);
            Check.pushHigh(forge, 9);
            Check.push(forge, FULL, op, 0);
            Check.pile(forge, 2, 9);
            forge.pop();
            Check.pushHigh(forge, 1);
            Check.push(forge, FULL, op, 0);
            Check.push(forge, 2, 3, 0);
            Check.pile(forge, 2, 2);
        }
    }

    private static void highRightKid() {
        Check.sentence("Terms: The HEIGHT of a leaf is 1, of another tree one more than that of its highest kid. (the right one)");
        for (int op = 5; op <= 7; op++) {
            TreeCoverForge forge = new TreeCoverForge();
            Check.pushHigh(forge, 1);
            Check.pushHigh(forge, 9);
            Check.push(forge, 1, op, 0);
            Check.pile(forge, 1, 11);
            Check.push(forge, FULL, 3, 0);
            forge.pop();
            Check.pushHigh(forge, 1);
            Check.pushHigh(forge, 10);
            Check.push(forge, FULL, op, 0);
            Check.pile(forge, 2, 10);
            forge.pop();
            Check.pushHigh(forge, 9);
            Check.push(forge, 1, op, 0);
            Check.push(forge, FULL, 4, 0);
        }
    }

    private static void leavesBesideHighTrees() {
        Check.sentence("Terms: The HEIGHT of a leaf is 1 (whatever lies below it)");
        for (int op = 0; op <= 2; op++) {
            TreeCoverForge forge = new TreeCoverForge();
            Check.pushHigh(forge, 10);
            Check.pushHigh(forge, 10);
            Check.push(forge, 3, op, 0);
            for (int i = 0; i < 9; i++) {
                Check.push(forge, 3, 4, 0);
            }
            Check.push(forge, FULL, 4, 0);
            Check.pile(forge, 3, 10);
        }
    }

    private static void badBeforeFortyNodes() {
        Check.sentence("Terms: refusals are tested in the order in which they are named (push: BAD, then FULL for 40 nodes)");
        TreeCoverForge forge = leaves(40);
        Check.push(forge, FULL, 1, 7);
        for (int x : Check.outside(0, 7)) {
            Check.push(forge, BAD, x, 0);
            Check.push(forge, BAD, 1, x);
            Check.push(forge, BAD, 2, x);
            Check.push(forge, FULL, 0, x);
        }
        TreeCoverForge one = new TreeCoverForge();
        Check.pushFull(one, 16);
        Check.pushAll(one, 0, 1, 5, 0, 0, 1, 5, 0, 0, 1, 5, 0, 0, 1, 5, 0, 3, 0);
        Check.pile(one, 1, 40);
        for (int op = 5; op <= 7; op++) {
            Check.push(one, BAD, op, 0);
        }
        Check.push(one, FULL, 3, 0);
    }

    private static void badBeforeTooHigh() {
        Check.sentence("Terms: refusals are tested in the order in which they are named (push: BAD, then FULL for the height)");
        TreeCoverForge forge = new TreeCoverForge();
        Check.pushHigh(forge, 10);
        for (int op = 5; op <= 7; op++) {
            Check.push(forge, BAD, op, 0);
        }
        Check.push(forge, FULL, 3, 0);
        Check.push(forge, BAD, 8, 0);
        Check.push(forge, BAD, -1, 0);
        Check.pile(forge, 1, 10);
    }

    private static void refusedPushTakesNothing() {
        Check.sentence("Terms: A call that is refused changes nothing (push: the trees are not taken)");
        TreeCoverForge forge = Check.plain();
        Check.pushHigh(forge, 10);
        Check.pushAll(forge, 0, 7);
        for (int op = 5; op <= 7; op++) {
            Check.push(forge, FULL, op, 0);
        }
        Check.pile(forge, 2, 1);
        Check.costs(forge, 1);
        Check.due("value()", forge.value(), 7);
        forge.pop();
        Check.push(forge, FULL, 4, 0);
        Check.pile(forge, 1, 10);
        Check.costs(forge, 10);
        Check.due("value()", forge.value(), -1);
        forge.pop();
        Check.pile(forge, 0, 0);
    }

    private static void popTakesTheTopTree() {
        Check.sentence("6: Takes the top tree from the pile: true");
        TreeCoverForge forge = Check.plain(0, 1, 0, 2, 0, 3, 5, 0, 0, 4, 3, 0, 4, 0);
        int[] nodes = {0, 1, 3, 3};
        int[] values = {0, 1, 5, -8};
        for (int trees = 3; trees >= 1; trees--) {
            Check.pile(forge, trees, nodes[trees]);
            Check.due("value()", forge.value(), values[trees]);
            Check.costs(forge, nodes[trees]);
            Check.due("pop()", forge.pop(), true);
        }
        Check.pile(forge, 0, 0);
    }

    private static void popOfNone() {
        Check.sentence("6: false when there is none");
        TreeCoverForge forge = new TreeCoverForge();
        Check.due("pop()", forge.pop(), false);
        Check.due("pop()", forge.pop(), false);
        Check.pile(forge, 0, 0);
        Check.push(forge, 1, 0, 4);
        Check.due("pop()", forge.pop(), true);
        Check.due("pop()", forge.pop(), false);
        Check.pile(forge, 0, 0);
        Check.push(forge, 1, 0, 5);
        Check.push(forge, 2, 0, 6);
        Check.due("value()", forge.value(), 6);
        Check.pile(forge, 2, 1);
    }

    private static void popMakesRoom() {
        Check.sentence("6: Takes the top tree from the pile (with all its nodes)");
        TreeCoverForge forge = new TreeCoverForge();
        Check.pushHigh(forge, 10);
        Check.pushFull(forge, 8);
        Check.pushFull(forge, 8);
        Check.pile(forge, 3, 15);
        Check.push(forge, FULL, 0, 1);
        Check.due("pop()", forge.pop(), true);
        for (int trees = 3; trees <= 17; trees++) {
            Check.push(forge, trees, 2, 7);
        }
        Check.push(forge, FULL, 2, 7);
        for (int trees = 17; trees >= 1; trees--) {
            Check.due("pop()", forge.pop(), true);
        }
        Check.due("pop()", forge.pop(), false);
        for (int trees = 1; trees <= 40; trees++) {
            Check.push(forge, trees, 1, 7);
        }
        Check.push(forge, FULL, 1, 7);
    }

    private static void treesFromNoneToForty() {
        Check.sentence("7: How many trees lie on the pile.");
        TreeCoverForge forge = new TreeCoverForge();
        Check.due("trees()", forge.trees(), 0);
        for (int trees = 1; trees <= 40; trees++) {
            Check.push(forge, trees, trees % 3, 0);
            Check.due("trees()", forge.trees(), trees);
        }
        for (int trees = 39; trees >= 0; trees--) {
            Check.due("pop()", forge.pop(), true);
            Check.due("trees()", forge.trees(), trees);
        }
    }

    private static void nodesFromNoneToForty() {
        Check.sentence("8: How many nodes the top tree has; 0 when there is none.");
        TreeCoverForge forge = new TreeCoverForge();
        Check.due("nodes()", forge.nodes(), 0);
        Check.pushFull(forge, 16);
        Check.due("nodes()", forge.nodes(), 31);
        for (int nodes = 33; nodes <= 39; nodes += 2) {
            Check.push(forge, 2, 1, 0);
            Check.due("nodes()", forge.nodes(), 1);
            Check.push(forge, 1, 6, 0);
            Check.due("nodes()", forge.nodes(), nodes);
        }
        Check.push(forge, 1, 3, 0);
        Check.due("nodes()", forge.nodes(), 40);
        Check.due("pop()", forge.pop(), true);
        Check.due("nodes()", forge.nodes(), 0);
        Check.due("pop()", forge.pop(), false);
        Check.due("nodes()", forge.nodes(), 0);
    }
}

/** Promises 5 to 8: push, pop, trees, nodes. */
public final class PileTest {
    public static void main(String[] args) {
        Check.each(
                PileTest::pushAnswersTheTrees,
                PileTest::badPushes,
                PileTest::numbersThatAreTaken,
                PileTest::fullOfNodes,
                PileTest::tooHigh,
                PileTest::badBeforeFull,
                PileTest::popTakesWholeTrees);
    }

    private static void pushAnswersTheTrees() {
        TreeCoverForge forge = new TreeCoverForge();
        Check.pile(forge, 0, 0);
        Check.due("push(0, 9)", forge.push(0, 9), 1);
        Check.pile(forge, 1, 1);
        Check.due("push(1, 1)", forge.push(1, 1), 2);
        Check.due("push(2, 2)", forge.push(2, 2), 3);
        Check.pile(forge, 3, 1);
        Check.due("push(3, 0)", forge.push(3, 0), 3);
        Check.pile(forge, 3, 2);
        Check.due("push(4, 0)", forge.push(4, 0), 3);
        Check.pile(forge, 3, 3);
        Check.due("push(5, 0)", forge.push(5, 0), 2);
        Check.pile(forge, 2, 5);
        Check.due("push(0, 1)", forge.push(0, 1), 3);
        Check.pile(forge, 3, 1);
        Check.due("push(6, 0)", forge.push(6, 0), 2);
        Check.pile(forge, 2, 7);
        Check.due("push(7, 0)", forge.push(7, 0), 1);
        Check.pile(forge, 1, 9);
        Check.due("value()", forge.value(), 9 * (0 - 204 - 1));
    }

    private static void bad(TreeCoverForge forge, int op, int v) {
        Check.due("push(" + op + ", " + v + ")", forge.push(op, v), TreeCoverForge.BAD);
    }

    private static void badOperatorsAndNumbers(TreeCoverForge forge) {
        for (int x : new int[] {-1, 8, 9, Integer.MIN_VALUE, Integer.MAX_VALUE}) {
            bad(forge, x, 0);
            bad(forge, 1, x);
            bad(forge, 2, x);
        }
    }

    private static void badPushes() {
        TreeCoverForge forge = new TreeCoverForge();
        badOperatorsAndNumbers(forge);
        for (int op = 3; op < 8; op++) {
            bad(forge, op, 0);
        }
        Check.pile(forge, 0, 0);
        Check.pushAll(forge, 0, 5);
        for (int op = 5; op < 8; op++) {
            bad(forge, op, 0);
        }
        badOperatorsAndNumbers(forge);
        Check.pile(forge, 1, 1);
        Check.pushAll(forge, 0, 5, 5, 0);
        bad(forge, 5, 0);
        Check.pile(forge, 1, 3);
        Check.due("value()", forge.value(), 10);
    }

    private static void numbersThatAreTaken() {
        TreeCoverForge forge = new TreeCoverForge();
        Check.pushAll(forge, 1, 0, 1, 7, 2, 0, 2, 7, 0, Integer.MIN_VALUE, 0, Integer.MAX_VALUE);
        Check.due("value()", forge.value(), Integer.MAX_VALUE);
        Check.pushAll(forge, 3, -1, 4, 8, 5, Integer.MIN_VALUE, 6, Integer.MAX_VALUE, 7, -7);
        Check.pile(forge, 3, 9);
    }

    private static void fullOfNodes() {
        TreeCoverForge forge = new TreeCoverForge();
        for (int i = 1; i <= 40; i++) {
            Check.due("leaf " + i, forge.push(i % 3, 1), i);
        }
        for (int op = 0; op < 8; op++) {
            Check.due("push(" + op + ", 1) at 40", forge.push(op, 1), TreeCoverForge.FULL);
        }
        Check.pile(forge, 40, 1);
        Check.due("pop()", forge.pop(), true);
        Check.due("node 40", forge.push(5, 0), 38);
        Check.due("push(0, 1) at 40", forge.push(0, 1), TreeCoverForge.FULL);
        Check.due("push(5, 0) at 40", forge.push(5, 0), TreeCoverForge.FULL);
        Check.due("pop()", forge.pop(), true);
        Check.due("leaf 38", forge.push(0, 1), 38);
        Check.due("leaf 39", forge.push(0, 1), 39);
        Check.due("node 40", forge.push(3, 0), 39);
        Check.due("push(3, 0) at 40", forge.push(3, 0), TreeCoverForge.FULL);
        Check.pile(forge, 39, 2);
    }

    private static void tooHigh() {
        TreeCoverForge forge = new TreeCoverForge();
        Check.pushAll(forge, 0, 1);
        for (int height = 2; height <= 10; height++) {
            Check.due("height " + height, forge.push(3 + height % 2, 0), 1);
        }
        Check.due("height 11", forge.push(3, 0), TreeCoverForge.FULL);
        Check.due("height 11", forge.push(4, 0), TreeCoverForge.FULL);
        Check.pile(forge, 1, 10);
        Check.due("a leaf over it", forge.push(1, 0), 2);
        for (int op = 5; op < 8; op++) {
            Check.due("the left kid too high", forge.push(op, 0), TreeCoverForge.FULL);
        }
        Check.pile(forge, 2, 1);
        forge.pop();
        forge.pop();
        Check.pushAll(forge, 0, 1, 0, 1);
        for (int height = 2; height <= 9; height++) {
            Check.pushAll(forge, 3, 0);
        }
        Check.due("the right kid just low enough", forge.push(6, 0), 1);
        Check.pile(forge, 1, 11);
        forge.pop();
        Check.pushAll(forge, 0, 1, 0, 1);
        for (int height = 2; height <= 10; height++) {
            Check.pushAll(forge, 4, 0);
        }
        Check.due("the right kid too high", forge.push(7, 0), TreeCoverForge.FULL);
        Check.pile(forge, 2, 10);
    }

    private static void badBeforeFull() {
        TreeCoverForge forge = new TreeCoverForge();
        Check.pushFull(forge, 16);
        Check.pushAll(forge, 3, 0, 3, 0, 3, 0, 3, 0, 3, 0);
        Check.pile(forge, 1, 36);
        Check.due("height 11", forge.push(3, 0), TreeCoverForge.FULL);
        bad(forge, 5, 0);
        Check.pushAll(forge, 0, 1, 3, 0, 3, 0, 3, 0);
        Check.pile(forge, 2, 4);
        badOperatorsAndNumbers(forge);
        Check.due("push(0, 1) at 40", forge.push(0, 1), TreeCoverForge.FULL);
        Check.due("push(6, 0) at 40", forge.push(6, 0), TreeCoverForge.FULL);
    }

    private static void popTakesWholeTrees() {
        TreeCoverForge forge = new TreeCoverForge();
        Check.due("pop()", forge.pop(), false);
        Check.pushAll(forge, 0, 1, 0, 2, 0, 3, 5, 0, 0, 4, 3, 0);
        Check.pile(forge, 3, 2);
        Check.due("value()", forge.value(), -4);
        Check.due("pop()", forge.pop(), true);
        Check.pile(forge, 2, 3);
        Check.due("value()", forge.value(), 5);
        Check.due("pop()", forge.pop(), true);
        Check.pile(forge, 1, 1);
        Check.due("value()", forge.value(), 1);
        Check.due("pop()", forge.pop(), true);
        Check.pile(forge, 0, 0);
        Check.due("pop()", forge.pop(), false);
        Check.due("pop()", forge.pop(), false);
        Check.due("push(3, 0)", forge.push(3, 0), TreeCoverForge.BAD);
        Check.due("push(0, 6)", forge.push(0, 6), 1);
        Check.pile(forge, 1, 1);
    }
}

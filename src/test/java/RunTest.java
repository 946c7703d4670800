/** Promises 16 to 18: set, run, value. */
public final class RunTest {
    public static void main(String[] args) {
        Check.each(
                RunTest::boundsOfSet,
                RunTest::everyOperator,
                RunTest::wrappingInts,
                RunTest::variablesOfNow,
                RunTest::runIsTheCodes,
                RunTest::leftAndRight,
                RunTest::largestTree);
    }

    private static void bothAnswer(TreeCoverForge forge, int due) {
        Check.due("value()", forge.value(), due);
        Check.due("cover() is taken", forge.cover() > 0, true);
        Check.due("run()", forge.run(), due);
    }

    private static void boundsOfSet() {
        TreeCoverForge forge = new TreeCoverForge();
        for (int v : new int[] {-1, 8, Integer.MIN_VALUE, Integer.MAX_VALUE}) {
            Check.due("set(" + v + ", 5)", forge.set(v, 5), false);
        }
        for (int v = 0; v < 8; v++) {
            Check.pushAll(forge, 1, v);
            Check.due("value() of " + v, forge.value(), 0);
            Check.due("set(" + v + ", " + (10 + v) + ")", forge.set(v, 10 + v), true);
            Check.due("value() of " + v, forge.value(), 10 + v);
        }
        for (int v = 7; v >= 0; v--) {
            Check.due("value() of " + v, forge.value(), 10 + v);
            forge.pop();
        }
        Check.due("value() without a tree", forge.value(), 0);
    }

    private static void everyOperator() {
        int[] due = {6, 11, 106, -11, 22, 17, -5, 66};
        for (int op = 0; op < 8; op++) {
            TreeCoverForge forge = new TreeCoverForge();
            Check.plainRules(forge);
            forge.set(6, 11);
            if (op >= 5) {
                Check.pushAll(forge, 0, 6);
            }
            if (op >= 3) {
                Check.pushAll(forge, 1, 6);
            }
            Check.pushAll(forge, op, 6);
            bothAnswer(forge, due[op]);
            forge.set(6, 11);
            bothAnswer(forge, due[op]);
        }
        TreeCoverForge forge = new TreeCoverForge();
        Check.plainRules(forge);
        Check.pushAll(forge, 2, 0);
        bothAnswer(forge, 100);
        Check.pushAll(forge, 2, 7);
        bothAnswer(forge, 107);
    }

    private static void wrappingInts() {
        TreeCoverForge forge = new TreeCoverForge();
        Check.plainRules(forge);
        Check.pushAll(forge, 0, Integer.MIN_VALUE, 3, 0);
        bothAnswer(forge, Integer.MIN_VALUE);
        Check.pushAll(forge, 4, 0);
        bothAnswer(forge, 0);
        Check.pushAll(forge, 0, Integer.MAX_VALUE, 0, 1, 5, 0);
        bothAnswer(forge, Integer.MIN_VALUE);
        Check.pushAll(forge, 0, 1, 6, 0);
        bothAnswer(forge, Integer.MAX_VALUE);
        Check.pushAll(forge, 4, 0);
        bothAnswer(forge, -2);
        Check.pushAll(forge, 0, 123456789, 0, 987654321, 7, 0);
        bothAnswer(forge, 123456789 * 987654321);
    }

    private static void variablesOfNow() {
        TreeCoverForge forge = new TreeCoverForge();
        Check.plainRules(forge);
        Check.pushAll(forge, 1, 0, 1, 7, 7, 0);
        Check.due("cover()", forge.cover(), 3);
        Check.due("run()", forge.run(), 0);
        forge.set(0, 6);
        Check.due("run()", forge.run(), 0);
        forge.set(7, -7);
        Check.due("run()", forge.run(), -42);
        Check.due("run() again", forge.run(), -42);
        Check.due("value()", forge.value(), -42);
        Check.due("set(8, 1)", forge.set(8, 1), false);
        Check.due("run()", forge.run(), -42);
        forge.set(0, Integer.MIN_VALUE);
        Check.due("run()", forge.run(), Integer.MIN_VALUE);
        Check.due("value()", forge.value(), Integer.MIN_VALUE);
    }

    private static void runIsTheCodes() {
        TreeCoverForge forge = new TreeCoverForge();
        Check.due("run() without code", forge.run(), 0);
        Check.plainRules(forge);
        Check.pushAll(forge, 0, 5);
        Check.due("run() without code", forge.run(), 0);
        Check.due("value()", forge.value(), 5);
        Check.due("cover()", forge.cover(), 1);
        Check.pushAll(forge, 1, 2);
        forge.set(2, 8);
        Check.due("run() of the old tree", forge.run(), 5);
        Check.due("value() of the new tree", forge.value(), 8);
        Check.due("cover()", forge.cover(), 1);
        forge.pop();
        forge.pop();
        Check.due("run() of a tree that is gone", forge.run(), 8);
        Check.due("value() without a tree", forge.value(), 0);
        forge.set(2, 9);
        forge.clear();
        Check.due("run() with the variable of now", forge.run(), 9);
    }

    private static void leftAndRight() {
        TreeCoverForge forge = new TreeCoverForge();
        Check.plainRules(forge);
        Check.pushAll(forge, 0, 100, 0, 30, 6, 0, 0, 8, 0, 3, 6, 0);
        for (int k = 1; k <= 4; k++) {
            forge.registers(k);
            bothAnswer(forge, 5);
        }
        Check.pushAll(forge, 6, 0);
        for (int k = 1; k <= 4; k++) {
            forge.registers(k);
            bothAnswer(forge, 65);
        }
    }

    private static void largestTree() {
        TreeCoverForge forge = new TreeCoverForge();
        Check.plainRules(forge);
        Check.pushFull(forge, 16);
        Check.pushAll(forge, 0, 1, 5, 0, 0, 1, 5, 0, 0, 1, 5, 0, 0, 1, 5, 0, 3, 0);
        Check.due("nodes()", forge.nodes(), 40);
        bothAnswer(forge, -20);
    }
}

/** Promises 16 to 18 and what the terms say of values, sentence by sentence: set, run, value. */
public final class RunEdgeTest {
    private static final int BAD = TreeCoverForge.BAD;
    private static final int NONE = TreeCoverForge.NONE;
    private static final int MIN = Integer.MIN_VALUE;
    private static final int MAX = Integer.MAX_VALUE;
    private static final int[] INTS = {MIN, MIN + 1, -65536, -1, 0, 1, 2, 46341, 65536, 1 << 30, MAX - 1, MAX};

    public static void main(String[] args) {
        Check.each(
                RunEdgeTest::variableBecomes,
                RunEdgeTest::variableOutOfBounds,
                RunEdgeTest::refusedSetChangesNothing,
                RunEdgeTest::runWithVariablesOfNow,
                RunEdgeTest::runWithoutCode,
                RunEdgeTest::resultOfTheLastInstruction,
                RunEdgeTest::runOnRegistersAndSlots,
                RunEdgeTest::runChangesNothing,
                RunEdgeTest::valueOfTheTopTree,
                RunEdgeTest::valueWithoutTree,
                RunEdgeTest::valueOfConst,
                RunEdgeTest::variablesAtFirst,
                RunEdgeTest::valueOfPlace,
                RunEdgeTest::negWraps,
                RunEdgeTest::twiceWraps,
                RunEdgeTest::addSubMulWrap,
                RunEdgeTest::wrapsAtEveryNode,
                RunEdgeTest::resultOfAChainRule,
                RunEdgeTest::fiveHundredAndTwelveCalls);
    }

    /** What the tree is worth, and what its code answers with every K. */
    private static void bothAnswer(TreeCoverForge forge, int due) {
        Check.due("value()", forge.value(), due);
        for (int registers = 1; registers <= 4; registers += 3) {
            forge.registers(registers);
            Check.due("cover() is taken", forge.cover() > 0, true);
            Check.due("run() with " + registers, forge.run(), due);
        }
    }

    private static void variableBecomes() {
        Check.sentence("16: Variable v becomes x: true");
        for (int v = 0; v <= 7; v++) {
            TreeCoverForge forge = Check.plain(1, v);
            Check.due("cover()", forge.cover(), 1);
            for (int x : INTS) {
                Check.due("set(" + v + ", " + x + ")", forge.set(v, x), true);
                Check.due("value()", forge.value(), x);
                Check.due("run()", forge.run(), x);
            }
            Check.due("set(" + v + ", 0)", forge.set(v, 0), true);
            Check.due("value()", forge.value(), 0);
        }
    }

    /** All eight variables, asked for by leaves that come and go. */
    private static void variablesAre(TreeCoverForge forge, int first) {
        for (int v = 0; v <= 7; v++) {
            Check.pushAll(forge, 1, v);
            Check.due("variable " + v, forge.value(), first + v);
            forge.pop();
        }
    }

    private static void variableOutOfBounds() {
        Check.sentence("16: false when v is not 0 .. 7");
        TreeCoverForge forge = new TreeCoverForge();
        for (int v : Check.outside(0, 7)) {
            Check.due("set(" + v + ", 5)", forge.set(v, 5), false);
        }
        Check.due("set(0, 5)", forge.set(0, 5), true);
        Check.due("set(7, 5)", forge.set(7, 5), true);
    }

    private static void refusedSetChangesNothing() {
        Check.sentence("Terms: A call that is refused changes nothing (set: all variables stay)");
        TreeCoverForge forge = new TreeCoverForge();
        for (int v = 0; v <= 7; v++) {
            Check.due("set(" + v + ", " + (20 + v) + ")", forge.set(v, 20 + v), true);
        }
        variablesAre(forge, 20);
        for (int v : Check.outside(0, 7)) {
            Check.due("set(" + v + ", 5)", forge.set(v, 5), false);
            variablesAre(forge, 20);
        }
    }

    private static void runWithVariablesOfNow() {
        Check.sentence("17: Runs the code, with the variables as they are now");
        TreeCoverForge forge = Check.plain(1, 0, 1, 7, 6, 0);
        forge.set(0, 1);
        Check.due("cover()", forge.cover(), 3);
        Check.due("run()", forge.run(), 1);
        forge.set(0, 9);
        Check.due("run()", forge.run(), 9);
        forge.set(7, 4);
        Check.due("run()", forge.run(), 5);
        forge.pop();
        forge.clear();
        forge.set(7, 0);
        Check.due("run() without the tree", forge.run(), 9);
        forge.set(0, 0);
        Check.due("run()", forge.run(), 0);
        Check.due("set(8, 3)", forge.set(8, 3), false);
        Check.due("run()", forge.run(), 0);
    }

    private static void runWithoutCode() {
        Check.sentence("17: 0 when there is no code");
        TreeCoverForge forge = new TreeCoverForge();
        Check.due("run()", forge.run(), 0);
        forge.set(0, 5);
        Check.pushAll(forge, 1, 0);
        Check.due("run() with a tree", forge.run(), 0);
        Check.due("cover()", forge.cover(), NONE);
        Check.due("run() after a refused cover()", forge.run(), 0);
        Check.rule(forge, 0, 0, 1, 0, 0, 1);
        Check.due("run() with rules", forge.run(), 0);
        forge.pop();
        Check.due("cover()", forge.cover(), BAD);
        Check.due("run() after a refused cover()", forge.run(), 0);
        Check.pushAll(forge, 1, 0);
        Check.due("cover()", forge.cover(), 1);
        Check.due("run() with code", forge.run(), 5);
    }

    private static void resultOfTheLastInstruction() {
        Check.sentence("17: the result of its last instruction");
        TreeCoverForge forge = Check.plain(0, 3, 0, 4, 0, 5, 7, 0, 6, 0);
        forge.registers(1);
        Check.due("cover()", forge.cover(), 5);
        Check.due("run()", forge.run(), 3 - 20);
        Check.pushAll(forge, 0, 100);
        Check.due("run() with another tree on top", forge.run(), 3 - 20);
        Check.due("value() of that", forge.value(), 100);
    }

    private static void runOnRegistersAndSlots() {
        Check.sentence("17: on registers and slots (with every K, what value() says)");
        TreeCoverForge forge = Check.plain();
        for (int i = 1; i <= 10; i++) {
            Check.pushAll(forge, 0, i * i);
        }
        for (int i = 1; i < 10; i++) {
            Check.pushAll(forge, 6, 0);
        }
        bothAnswer(forge, 1 - 4 + 9 - 16 + 25 - 36 + 49 - 64 + 81 - 100);
        forge.pop();
        int[] sides = {0, 90, 0, 7, 6, 0, 0, 11, 0, 3, 6, 0, 6, 0};
        Check.pushAll(forge, sides);
        Check.pushAll(forge, sides);
        Check.pushAll(forge, 4, 0, 6, 0);
        bothAnswer(forge, 75 - 150);
    }

    private static void runChangesNothing() {
        Check.sentence("17: Runs the code (again and again alike)");
        TreeCoverForge forge = Check.plain(1, 1, 0, 2, 0, 3, 7, 0, 6, 0);
        forge.registers(1);
        forge.set(1, 50);
        Check.due("cover()", forge.cover(), 5);
        for (int time = 0; time < 3; time++) {
            Check.due("run()", forge.run(), 44);
            Check.due("value()", forge.value(), 44);
            Check.due("slots()", forge.slots(), 2);
            Check.pile(forge, 1, 5);
            variablesAfterRun(forge);
        }
    }

    private static void variablesAfterRun(TreeCoverForge forge) {
        for (int v = 0; v <= 7; v++) {
            Check.pushAll(forge, 1, v);
            Check.due("variable " + v, forge.value(), v == 1 ? 50 : 0);
            forge.pop();
        }
    }

    private static void valueOfTheTopTree() {
        Check.sentence("18: The value of the top tree");
        TreeCoverForge forge = new TreeCoverForge();
        Check.pushAll(forge, 0, 1, 0, 20, 0, 3, 6, 0, 0, 5);
        Check.due("value()", forge.value(), 5);
        forge.pop();
        Check.due("value()", forge.value(), 17);
        forge.pop();
        Check.due("value()", forge.value(), 1);
        Check.pushAll(forge, 0, 7);
        Check.due("value()", forge.value(), 7);
    }

    private static void valueWithoutTree() {
        Check.sentence("18: 0 when there is none");
        TreeCoverForge forge = Check.plain();
        Check.due("value()", forge.value(), 0);
        forge.set(0, 9);
        Check.due("value()", forge.value(), 0);
        Check.pushAll(forge, 1, 0);
        Check.due("value()", forge.value(), 9);
        Check.due("cover()", forge.cover(), 1);
        forge.pop();
        Check.due("value()", forge.value(), 0);
        Check.due("pop()", forge.pop(), false);
        Check.due("value()", forge.value(), 0);
        Check.due("run()", forge.run(), 9);
    }

    private static void valueOfConst() {
        Check.sentence("Terms: The VALUE of a tree, in wrapping ints: of CONST v");
        for (int v : INTS) {
            bothAnswer(Check.plain(0, v), v);
        }
    }

    private static void variablesAtFirst() {
        Check.sentence("Terms: of VAR the variable v (there are 0 .. 7, at first 0)");
        for (int v = 0; v <= 7; v++) {
            TreeCoverForge forge = Check.plain(1, v);
            bothAnswer(forge, 0);
            for (int other = 0; other <= 7; other++) {
                if (other != v) {
                    forge.set(other, 1 + other);
                }
            }
            bothAnswer(forge, 0);
            forge.set(v, -9);
            bothAnswer(forge, -9);
        }
    }

    private static void valueOfPlace() {
        Check.sentence("Terms: of PLACE 100 + v");
        for (int v = 0; v <= 7; v++) {
            TreeCoverForge forge = Check.plain(2, v);
            forge.set(v, 5);
            bothAnswer(forge, 100 + v);
        }
    }

    private static void negWraps() {
        Check.sentence("Terms: of NEG the kid's value negated (in wrapping ints)");
        int[] due = {MIN, MAX, 65536, 1, 0, -1, -2, -46341, -65536, -(1 << 30), MIN + 2, MIN + 1};
        for (int i = 0; i < INTS.length; i++) {
            bothAnswer(Check.plain(0, INTS[i], 3, 0), due[i]);
        }
    }

    private static void twiceWraps() {
        Check.sentence("Terms: of TWICE the kid's value and itself added (in wrapping ints)");
        int[] due = {0, 2, -131072, -2, 0, 2, 4, 92682, 131072, MIN, -4, -2};
        for (int i = 0; i < INTS.length; i++) {
            bothAnswer(Check.plain(0, INTS[i], 4, 0), due[i]);
        }
    }

    /** The long's low half: what a result that wraps round must be. */
    private static int wrapped(int op, long left, long right) {
        long whole = op == 5 ? left + right : op == 6 ? left - right : left * right;
        return (int) (whole & 0xFFFFFFFFL);
    }

    private static void addSubMulWrap() {
        Check.sentence("Terms: of ADD, SUB, MUL the left kid's value plus, less, times the right one's (in wrapping ints)");
        bothAnswer(Check.plain(0, MAX, 0, 1, 5, 0), MIN);
        bothAnswer(Check.plain(0, MIN, 0, -1, 5, 0), MAX);
        bothAnswer(Check.plain(0, MIN, 0, 1, 6, 0), MAX);
        bothAnswer(Check.plain(0, 0, 0, MIN, 6, 0), MIN);
        bothAnswer(Check.plain(0, MIN, 0, -1, 7, 0), MIN);
        bothAnswer(Check.plain(0, 65536, 0, 65536, 7, 0), 0);
        bothAnswer(Check.plain(0, 46341, 0, 46341, 7, 0), -2147479015);
        for (int left : INTS) {
            for (int right : INTS) {
                for (int op = 5; op <= 7; op++) {
                    bothAnswer(Check.plain(0, left, 0, right, op, 0), wrapped(op, left, right));
                }
            }
        }
    }

    private static void wrapsAtEveryNode() {
        Check.sentence("Terms: in wrapping ints (over and over)");
        TreeCoverForge forge = Check.plain(1, 0);
        forge.set(0, 3);
        for (int i = 0; i < 9; i++) {
            Check.pushAll(forge, 4, 0);
        }
        bothAnswer(forge, 3 * 512);
        forge.set(0, 0x00C00001);
        bothAnswer(forge, 0x80000200);
        forge.pop();
        Check.pushFull(forge, 4);
        Check.pushAll(forge, 0, 0x7FFFFFFF, 5, 0, 0, 0x7FFFFFFF, 7, 0);
        bothAnswer(forge, wrapped(7, 0x80000003, 0x7FFFFFFF));
    }

    private static void resultOfAChainRule() {
        Check.sentence("Terms: An instruction RESULTS in the value of its node. (a chain rule's, too)");
        TreeCoverForge forge = new TreeCoverForge();
        for (int op = 0; op < 8; op++) {
            Check.rule(forge, op, 1, op, 0, 0, 1);
        }
        Check.rule(forge, 8, 0, 8, 1, 0, 1);
        forge.set(5, MIN);
        Check.pushAll(forge, 1, 5, 3, 0, 2, 3, 6, 0, 4, 0, 0, 7, 5, 0, 1, 5, 7, 0);
        bothAnswer(forge, MIN);
        Check.due("cover()", forge.cover(), 18);
        forge.set(5, 10);
        bothAnswer(forge, -2190);
    }

    /** What is asked of one object is promised up to and with its 512th call. */
    private static void fiveHundredAndTwelveCalls() {
        Check.sentence("An object is used for at most 512 calls after it has been made");
        TreeCoverForge forge = new TreeCoverForge();
        int calls = 0;
        for (int op = 0; op < 8; op++) {
            Check.rule(forge, op, 0, op, 0, 0, 1);
            calls++;
        }
        while (calls + 12 <= 511) {
            int x = calls;
            Check.due("set(3, " + x + ")", forge.set(3, x), true);
            Check.push(forge, 1, 1, 3);
            Check.push(forge, 2, 0, 1);
            Check.push(forge, 1, 6, 0);
            Check.due("cover()", forge.cover(), 3);
            Check.due("run()", forge.run(), x - 1);
            Check.due("value()", forge.value(), x - 1);
            Check.due("cost(0)", forge.cost(0), 3);
            Check.due("instruction(2, 0)", forge.instruction(2, 0), 6);
            Check.due("states()", forge.states(), 8);
            Check.due("pop()", forge.pop(), true);
            Check.due("trees()", forge.trees(), 0);
            calls += 12;
        }
        for (; calls < 511; calls++) {
            Check.push(forge, BAD, 3, 0);
        }
        Check.rule(forge, 8, 0, 8, 1, 0, 1);
    }
}

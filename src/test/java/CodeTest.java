/** Promises 12 to 15: registers, cover, instruction, slots. */
public final class CodeTest {
    private static final int BAD = TreeCoverForge.BAD;
    private static final int NONE = TreeCoverForge.NONE;

    public static void main(String[] args) {
        Check.each(
                CodeTest::refusedCovers,
                CodeTest::partsOfInstructions,
                CodeTest::chainsInTheCode,
                CodeTest::threeRegistersAtFirst,
                CodeTest::boundsOfRegisters,
                CodeTest::registersForCoversToCome,
                CodeTest::longestNeededIsSpilled,
                CodeTest::placesWithOneRegister,
                CodeTest::sourcesAreReadFirst,
                CodeTest::codeStays,
                CodeTest::largestCode,
                CodeTest::nodesOfTheTopTree,
                CodeTest::otherKindsBefore);
    }

    /** Asks for the places of the results of all instructions. */
    private static void places(TreeCoverForge forge, int... due) {
        for (int i = 0; i < due.length; i++) {
            Check.due("instruction(" + i + ", 2)", forge.instruction(i, 2), due[i]);
        }
        Check.due("instruction(" + due.length + ", 2)", forge.instruction(due.length, 2), BAD);
    }

    private static void refusedCovers() {
        TreeCoverForge forge = new TreeCoverForge();
        Check.due("cover() without a tree", forge.cover(), BAD);
        Check.pushAll(forge, 0, 5);
        Check.due("cover() without rules", forge.cover(), NONE);
        forge.rule(1, 0, 0, 0, 1);
        Check.due("cover() as kind 1 alone", forge.cover(), NONE);
        Check.due("instruction(0, 0)", forge.instruction(0, 0), BAD);
        Check.due("run()", forge.run(), 0);
        forge.rule(0, 8, 1, 0, 1);
        Check.due("cover()", forge.cover(), 2);
        Check.pushAll(forge, 3, 0);
        Check.due("cover() of NEG", forge.cover(), NONE);
        Check.instruction(forge, 1, 1, 0, 0, 0, NONE);
        forge.pop();
        Check.due("cover() without a tree", forge.cover(), BAD);
        Check.instruction(forge, 0, 0, 0, 0, NONE, NONE);
        Check.due("run()", forge.run(), 5);
    }

    private static void partsOfInstructions() {
        TreeCoverForge forge = Check.plain(2, 1, 1, 0, 0, 5, 3, 0, 6, 0, 4, 0);
        Check.due("cover()", forge.cover(), 5);
        Check.instruction(forge, 0, 1, 0, 0, NONE, NONE);
        Check.instruction(forge, 1, 0, 1, 1, NONE, NONE);
        Check.instruction(forge, 2, 3, 2, 1, 1, NONE);
        Check.instruction(forge, 3, 6, 3, 0, 0, 1);
        Check.instruction(forge, 4, 4, 4, 0, 0, NONE);
        Check.due("slots()", forge.slots(), 0);
        for (int i : new int[] {-1, 5, 6, 160, Integer.MIN_VALUE, Integer.MAX_VALUE}) {
            for (int what = -1; what <= 5; what++) {
                Check.due("instruction(" + i + ", " + what + ")", forge.instruction(i, what), BAD);
            }
        }
        for (int what : new int[] {-1, 5, Integer.MIN_VALUE, Integer.MAX_VALUE}) {
            Check.due("instruction(0, " + what + ")", forge.instruction(0, what), BAD);
            Check.due("instruction(4, " + what + ")", forge.instruction(4, what), BAD);
        }
    }

    private static void chainsInTheCode() {
        TreeCoverForge forge = new TreeCoverForge();
        forge.rule(0, 8, 1, 0, 1);
        forge.rule(1, 8, 2, 0, 1);
        forge.rule(2, 0, 0, 0, 1);
        forge.rule(3, 1, 0, 0, 1);
        forge.rule(2, 6, 0, 1, 1);
        forge.rule(1, 8, 3, 0, 1);
        forge.rule(3, 3, 3, 0, 0);
        Check.pushAll(forge, 0, 40, 1, 4, 3, 0, 6, 0);
        forge.set(4, 5);
        Check.due("cost(0)", forge.cost(0), 8);
        Check.due("cover()", forge.cover(), 9);
        Check.instruction(forge, 0, 2, 0, 0, NONE, NONE);
        Check.instruction(forge, 1, 1, 0, 0, 0, NONE);
        Check.instruction(forge, 2, 0, 0, 0, 0, NONE);
        Check.instruction(forge, 3, 3, 1, 1, NONE, NONE);
        Check.instruction(forge, 4, 6, 2, 1, 1, NONE);
        Check.instruction(forge, 5, 5, 2, 1, 1, NONE);
        Check.instruction(forge, 6, 4, 3, 0, 0, 1);
        Check.instruction(forge, 7, 1, 3, 0, 0, NONE);
        Check.instruction(forge, 8, 0, 3, 0, 0, NONE);
        Check.due("run()", forge.run(), 45);
        forge.registers(1);
        Check.due("cover()", forge.cover(), 9);
        Check.due("slots()", forge.slots(), 1);
        places(forge, 0, 0, 1, 0, 0, 0, 0, 0, 0);
        Check.instruction(forge, 5, 5, 2, 0, 0, NONE);
        Check.instruction(forge, 6, 4, 3, 0, 1, 0);
        Check.due("run()", forge.run(), 45);
    }

    private static void threeRegistersAtFirst() {
        TreeCoverForge forge = Check.plain(0, 9, 0, 4, 0, 2, 6, 0, 6, 0);
        Check.due("cover()", forge.cover(), 5);
        places(forge, 0, 1, 2, 1, 0);
        Check.due("slots()", forge.slots(), 0);
        forge = Check.plain(0, 9, 0, 4, 0, 2, 0, 1, 6, 0, 6, 0, 6, 0);
        Check.due("cover()", forge.cover(), 7);
        places(forge, 3, 1, 2, 0, 0, 0, 0);
        Check.due("slots()", forge.slots(), 1);
        Check.due("run()", forge.run(), 6);
    }

    private static void boundsOfRegisters() {
        TreeCoverForge forge = Check.plain(0, 9, 0, 4, 0, 2, 0, 1, 6, 0, 6, 0, 6, 0);
        int[] slots = {0, 3, 2, 1, 0};
        for (int k = 1; k <= 4; k++) {
            Check.due("registers(" + k + ")", forge.registers(k), true);
            for (int wrong : new int[] {0, -1, 5, Integer.MIN_VALUE, Integer.MAX_VALUE}) {
                Check.due("registers(" + wrong + ")", forge.registers(wrong), false);
            }
            Check.due("cover()", forge.cover(), 7);
            Check.due("slots() with " + k, forge.slots(), slots[k]);
            Check.due("run() with " + k, forge.run(), 6);
        }
        places(forge, 0, 1, 2, 3, 2, 1, 0);
    }

    private static void registersForCoversToCome() {
        TreeCoverForge forge = Check.plain(0, 9, 0, 4, 6, 0);
        Check.due("cover()", forge.cover(), 3);
        forge.registers(1);
        places(forge, 0, 1, 0);
        Check.due("slots()", forge.slots(), 0);
        Check.due("run()", forge.run(), 5);
        forge.clear();
        forge.pop();
        Check.plainRules(forge);
        Check.pushAll(forge, 0, 9, 0, 4, 6, 0);
        Check.due("cover()", forge.cover(), 3);
        places(forge, 0, 1, 0);
        Check.due("slots()", forge.slots(), 1);
    }

    /** With two registers: first the outermost constant goes to a slot, then the first sum. */
    private static void longestNeededIsSpilled() {
        TreeCoverForge forge = Check.plain(0, 1, 0, 2, 0, 3, 5, 0, 0, 4, 0, 5, 5, 0, 5, 0, 5, 0);
        forge.registers(2);
        Check.due("cover()", forge.cover(), 9);
        places(forge, 2, 1, 0, 3, 1, 0, 0, 0, 0);
        Check.instruction(forge, 3, 5, 3, 3, 1, 0);
        Check.instruction(forge, 6, 5, 6, 0, 1, 0);
        Check.instruction(forge, 8, 5, 8, 0, 2, 0);
        Check.due("slots()", forge.slots(), 2);
        Check.due("run()", forge.run(), 15);
    }

    /** Of two kids of one operator, needed equally long, the later one goes to a slot. */
    private static void placesWithOneRegister() {
        TreeCoverForge forge = Check.plain(0, 50, 0, 8, 6, 0, 0, 3, 0, 1, 6, 0, 6, 0);
        forge.registers(1);
        Check.due("cover()", forge.cover(), 7);
        places(forge, 0, 1, 2, 0, 3, 0, 0);
        Check.due("slots()", forge.slots(), 3);
        Check.due("run()", forge.run(), 40);
        Check.pushAll(forge, 0, 77);
        Check.due("cover()", forge.cover(), 1);
        Check.due("slots() of the new code", forge.slots(), 0);
        Check.instruction(forge, 0, 0, 0, 0, NONE, NONE);
        Check.due("instruction(1, 0)", forge.instruction(1, 0), BAD);
        Check.due("run()", forge.run(), 77);
    }

    private static void sourcesAreReadFirst() {
        TreeCoverForge forge = Check.plain(0, 7, 3, 0, 4, 0, 3, 0);
        forge.registers(1);
        Check.due("cover()", forge.cover(), 4);
        places(forge, 0, 0, 0, 0);
        Check.due("slots()", forge.slots(), 0);
        Check.due("run()", forge.run(), 14);
    }

    private static void codeStays() {
        TreeCoverForge forge = Check.plain(0, 30, 1, 5, 6, 0);
        Check.due("cover()", forge.cover(), 3);
        forge.clear();
        forge.rule(0, 0, 0, 0, 9);
        forge.pop();
        Check.pushAll(forge, 1, 1, 2, 2, 3, 0, 7, 0, 1, 3);
        forge.registers(1);
        Check.due("cover()", forge.cover(), NONE);
        forge.set(5, 9);
        Check.instruction(forge, 0, 0, 0, 0, NONE, NONE);
        Check.instruction(forge, 1, 1, 1, 1, NONE, NONE);
        Check.instruction(forge, 2, 6, 2, 0, 0, 1);
        Check.due("run()", forge.run(), 21);
        Check.due("slots()", forge.slots(), 0);
    }

    /** Forty nodes with four rules each. */
    private static void largestCode() {
        for (int root = 3; root <= 4; root++) {
            TreeCoverForge forge = new TreeCoverForge();
            for (int op = 0; op < 8; op++) {
                forge.rule(3, op, 0, 0, 1);
            }
            forge.rule(2, 8, 3, 0, 1);
            forge.rule(1, 8, 2, 0, 1);
            forge.rule(0, 8, 1, 0, 1);
            forge.registers(1);
            Check.pushFull(forge, 16);
            for (int i = 0; i < 4; i++) {
                Check.pushAll(forge, 0, 1, 5, 0);
            }
            Check.pushAll(forge, root, 0);
            Check.due("nodes()", forge.nodes(), 40);
            Check.due("cover()", forge.cover(), 160);
            Check.instruction(forge, 159, 10, 39, 0, 0, NONE);
            Check.due("run()", forge.run(), root == 3 ? -20 : 40);
            Check.due("slots()", forge.slots() > 0, true);
        }
    }

    /** Nodes are counted from the top tree's first one, whatever lies below it. */
    private static void nodesOfTheTopTree() {
        TreeCoverForge forge = new TreeCoverForge();
        forge.rule(1, 0, 0, 0, 1);
        forge.rule(0, 8, 1, 0, 1);
        forge.rule(1, 5, 0, 0, 1);
        Check.pushAll(forge, 0, 8, 0, 9, 5, 0, 0, 7, 0, 2, 0, 3, 5, 0);
        Check.due("cover()", forge.cover(), 6);
        int[] rules = {0, 1, 0, 1, 2, 1};
        int[] nodes = {0, 0, 1, 1, 2, 2};
        for (int i = 0; i < 6; i++) {
            Check.instruction(forge, i, rules[i], nodes[i]);
        }
        Check.due("run()", forge.run(), 5);
    }

    /** A place on the pile first holds a kid that is covered as kind 1, then a root. */
    private static void otherKindsBefore() {
        TreeCoverForge forge = new TreeCoverForge();
        forge.rule(1, 0, 0, 0, 1);
        forge.rule(0, 3, 1, 0, 1);
        forge.rule(0, 0, 0, 0, 5);
        Check.pushAll(forge, 0, 8, 3, 0);
        Check.due("cover()", forge.cover(), 2);
        Check.instruction(forge, 0, 0, 0, 0, NONE, NONE);
        Check.instruction(forge, 1, 1, 1, 0, 0, NONE);
        forge.pop();
        Check.pushAll(forge, 0, 4);
        Check.due("cover()", forge.cover(), 1);
        Check.instruction(forge, 0, 2, 0, 0, NONE, NONE);
        Check.due("run()", forge.run(), 4);
    }
}

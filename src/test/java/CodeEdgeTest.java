/** Promises 12 to 15 and what the terms say of code, sentence by sentence: registers, cover, instruction, slots. */
public final class CodeEdgeTest {
    private static final int BAD = TreeCoverForge.BAD;
    private static final int NONE = TreeCoverForge.NONE;

    public static void main(String[] args) {
        Check.each(
                CodeEdgeTest::registersBecomeK,
                CodeEdgeTest::registersOutOfBounds,
                CodeEdgeTest::registersForCoversToCome,
                CodeEdgeTest::coverAsKindZero,
                CodeEdgeTest::coverFollowsTheChoices,
                CodeEdgeTest::shortestAndLongestCode,
                CodeEdgeTest::codeTakesThePlace,
                CodeEdgeTest::coverWithoutTree,
                CodeEdgeTest::coverWithoutCover,
                CodeEdgeTest::coverTellsBadFirst,
                CodeEdgeTest::refusedCoverChangesNothing,
                CodeEdgeTest::whatInstructionsTell,
                CodeEdgeTest::sourcesThatAreNot,
                CodeEdgeTest::noSuchInstruction,
                CodeEdgeTest::noSuchPart,
                CodeEdgeTest::instructionTellsBadFirst,
                CodeEdgeTest::codeStaysWhateverBecomesOfRules,
                CodeEdgeTest::codeStaysWhateverBecomesOfTrees,
                CodeEdgeTest::slotsWithoutCode,
                CodeEdgeTest::slotsOfTheCode,
                CodeEdgeTest::kidsBeforeOperators,
                CodeEdgeTest::chainRulesBehind);
    }

    /** 9 - (4 - (2 - 1)): four values are needed at once. */
    private static final int[] FOUR = {0, 9, 0, 4, 0, 2, 0, 1, 6, 0, 6, 0, 6, 0};
    private static final int[][] FOUR_PLACES = {{}, {1, 2, 0, 3, 0, 0, 0}, {2, 3, 0, 1, 0, 0, 0},
        {3, 1, 2, 0, 0, 0, 0}, {0, 1, 2, 3, 2, 1, 0}};

    private static void registersBecomeK() {
        Check.sentence("12: K for the covers to come becomes registers: true");
        TreeCoverForge forge = Check.plain(FOUR);
        for (int registers : new int[] {1, 2, 3, 4, 4, 1, 3}) {
            Check.due("registers(" + registers + ")", forge.registers(registers), true);
            Check.places(forge, FOUR_PLACES[registers]);
            Check.due("slots()", forge.slots(), 4 - registers);
            Check.due("run()", forge.run(), 6);
        }
    }

    private static void registersOutOfBounds() {
        Check.sentence("12: false when that is not 1 .. 4");
        for (int registers : Check.outside(1, 4)) {
            TreeCoverForge forge = Check.plain(FOUR);
            Check.due("registers(" + registers + ")", forge.registers(registers), false);
            Check.places(forge, FOUR_PLACES[3]);
            for (int good : new int[] {1, 4}) {
                Check.due("registers(" + good + ")", forge.registers(good), true);
                Check.due("registers(" + registers + ")", forge.registers(registers), false);
                Check.places(forge, FOUR_PLACES[good]);
            }
        }
    }

    private static void registersForCoversToCome() {
        Check.sentence("12: K for the covers to come (not for the code that is there)");
        TreeCoverForge forge = Check.plain(FOUR);
        Check.places(forge, FOUR_PLACES[3]);
        for (int registers = 1; registers <= 4; registers++) {
            Check.due("registers(" + registers + ")", forge.registers(registers), true);
            for (int i = 0; i < 7; i++) {
                Check.due("instruction(" + i + ", 2)", forge.instruction(i, 2), FOUR_PLACES[3][i]);
            }
            Check.instruction(forge, 6, 6, 6, 0, 3, 0);
            Check.due("slots()", forge.slots(), 1);
            Check.due("run()", forge.run(), 6);
        }
    }

    private static void coverAsKindZero() {
        Check.sentence("13: Covers the top tree as kind 0");
        TreeCoverForge forge = Check.with(new int[] {1, 0, 0, 0, 0}, new int[] {2, 0, 0, 0, 0},
                new int[] {3, 0, 0, 0, 0}, new int[] {0, 1, 0, 0, 0});
        Check.pushAll(forge, 0, 5);
        Check.due("cover()", forge.cover(), NONE);
        Check.rule(forge, 4, 0, 8, 3, 0, 9);
        Check.due("cover()", forge.cover(), 2);
        Check.instruction(forge, 0, 2, 0, 0, NONE, NONE);
        Check.instruction(forge, 1, 4, 0, 0, 0, NONE);
        Check.rule(forge, 5, 0, 0, 0, 0, 9);
        Check.due("cover()", forge.cover(), 2);
        Check.pushAll(forge, 1, 2);
        Check.due("cover()", forge.cover(), 1);
        Check.instruction(forge, 0, 3, 0, 0, NONE, NONE);
    }

    private static void coverFollowsTheChoices() {
        Check.sentence("Terms: THE CODE of a cover of a tree as kind 0 that follows the choices");
        TreeCoverForge forge = Check.with(new int[] {0, 0, 0, 0, 3}, new int[] {1, 0, 0, 0, 1},
                new int[] {0, 8, 1, 0, 2}, new int[] {0, 3, 0, 0, 1}, new int[] {0, 3, 1, 0, 4},
                new int[] {0, 3, 1, 0, 3});
        Check.pushAll(forge, 0, 5);
        Check.due("cover() at a tie", forge.cover(), 1);
        Check.instruction(forge, 0, 0);
        Check.pushAll(forge, 3, 0);
        Check.due("cover() at a tie", forge.cover(), 2);
        Check.instruction(forge, 0, 0);
        Check.instruction(forge, 1, 3);
        Check.rule(forge, 6, 0, 3, 1, 0, 2);
        Check.due("cover() of less", forge.cover(), 2);
        Check.instruction(forge, 0, 1);
        Check.instruction(forge, 1, 6);
    }

    private static TreeCoverForge fourRulesEach() {
        TreeCoverForge forge = new TreeCoverForge();
        for (int op = 0; op < 8; op++) {
            Check.rule(forge, op, 3, op, 0, 0, 1);
        }
        Check.rule(forge, 8, 2, 8, 3, 0, 1);
        Check.rule(forge, 9, 1, 8, 2, 0, 1);
        Check.rule(forge, 10, 0, 8, 1, 0, 1);
        Check.pushFull(forge, 16);
        Check.pushAll(forge, 0, 1, 5, 0, 0, 1, 5, 0, 0, 1, 5, 0, 0, 1, 5, 0, 4, 0);
        return forge;
    }

    private static void shortestAndLongestCode() {
        Check.sentence("13: how many instructions it has");
        Check.due("cover()", Check.plain(0, 1).cover(), 1);
        TreeCoverForge forge = fourRulesEach();
        Check.due("nodes()", forge.nodes(), 40);
        Check.due("cover()", forge.cover(), 160);
        for (int i : new int[] {0, 1, 2, 3, 156, 157, 158, 159}) {
            int rule = i % 4 == 0 ? i == 0 ? 0 : 4 : 7 + i % 4;
            Check.instruction(forge, i, rule, i / 4);
        }
        Check.instruction(forge, 160, BAD, BAD, BAD, BAD, BAD);
        Check.due("run()", forge.run(), 40);
    }

    private static void codeTakesThePlace() {
        Check.sentence("13: writes the code, which takes the place of what code there was");
        TreeCoverForge forge = fourRulesEach();
        forge.registers(1);
        Check.due("cover()", forge.cover(), 160);
        Check.due("slots()", forge.slots(), 19);
        forge.pop();
        Check.pushAll(forge, 2, 6);
        Check.due("cover()", forge.cover(), 4);
        Check.instruction(forge, 0, 2, 0, 0, NONE, NONE);
        Check.instruction(forge, 3, 10, 0, 0, 0, NONE);
        Check.instruction(forge, 4, BAD, BAD, BAD, BAD, BAD);
        Check.instruction(forge, 159, BAD, BAD, BAD, BAD, BAD);
        Check.due("slots()", forge.slots(), 0);
        Check.due("run()", forge.run(), 106);
        Check.pushAll(forge, 3, 0);
        Check.due("cover()", forge.cover(), 8);
        Check.due("run()", forge.run(), -106);
        Check.due("cover() again", forge.cover(), 8);
        Check.due("run() again", forge.run(), -106);
    }

    private static void coverWithoutTree() {
        Check.sentence("13: BAD when there is no tree");
        TreeCoverForge forge = Check.plain();
        Check.due("cover()", forge.cover(), BAD);
        Check.pushAll(forge, 0, 5);
        Check.due("cover()", forge.cover(), 1);
        forge.pop();
        Check.due("cover()", forge.cover(), BAD);
        Check.due("run()", forge.run(), 5);
    }

    private static void coverWithoutCover() {
        Check.sentence("13: NONE.");
        TreeCoverForge forge = new TreeCoverForge();
        Check.pushAll(forge, 0, 5, 1, 1, 5, 0);
        Check.due("cover() without rules", forge.cover(), NONE);
        Check.rule(forge, 0, 0, 5, 0, 0, 1);
        Check.due("cover() without leaves", forge.cover(), NONE);
        Check.rule(forge, 1, 0, 0, 0, 0, 1);
        Check.due("cover() without the right kid", forge.cover(), NONE);
        Check.due("run()", forge.run(), 0);
        Check.rule(forge, 2, 0, 1, 0, 0, 1);
        Check.due("cover()", forge.cover(), 3);
        Check.pushAll(forge, 4, 0);
        Check.due("cover() without the root", forge.cover(), NONE);
        forge.clear();
        Check.due("cover() after clear()", forge.cover(), NONE);
        Check.due("run()", forge.run(), 5);
    }

    private static void coverTellsBadFirst() {
        Check.sentence("Terms: refusals are tested in the order in which they are named (cover: BAD, then NONE)");
        TreeCoverForge forge = new TreeCoverForge();
        Check.due("cover() without tree and rules", forge.cover(), BAD);
        Check.pushAll(forge, 0, 5);
        Check.due("cover() without rules", forge.cover(), NONE);
        forge.pop();
        Check.due("cover() without tree and rules", forge.cover(), BAD);
    }

    private static void refusedCoverChangesNothing() {
        Check.sentence("Terms: A call that is refused changes nothing (cover: the code and its places stay)");
        TreeCoverForge forge = Check.plain(FOUR);
        Check.places(forge, FOUR_PLACES[3]);
        forge.registers(1);
        for (int time = 0; time < 2; time++) {
            if (time == 0) {
                forge.clear();
                Check.due("cover()", forge.cover(), NONE);
            } else {
                forge.pop();
                Check.due("cover()", forge.cover(), BAD);
            }
            for (int i = 0; i < 7; i++) {
                Check.due("instruction(" + i + ", 2)", forge.instruction(i, 2), FOUR_PLACES[3][i]);
                Check.due("instruction(" + i + ", 1)", forge.instruction(i, 1), i);
                Check.due("instruction(" + i + ", 0)", forge.instruction(i, 0), i < 4 ? 0 : 6);
            }
            Check.instruction(forge, 7, BAD, BAD, BAD, BAD, BAD);
            Check.due("slots()", forge.slots(), 1);
            Check.due("run()", forge.run(), 6);
        }
    }

    private static void whatInstructionsTell() {
        Check.sentence("14: what = 0 its rule, 1 its node, 2 the place of its result, 3 and 4 the places of its first and second source");
        TreeCoverForge forge = Check.plain(2, 1, 1, 0, 0, 5, 3, 0, 6, 0, 4, 0);
        Check.due("cover()", forge.cover(), 5);
        Check.instruction(forge, 0, 1, 0, 0, NONE, NONE);
        Check.instruction(forge, 1, 0, 1, 1, NONE, NONE);
        Check.instruction(forge, 2, 3, 2, 1, 1, NONE);
        Check.instruction(forge, 3, 6, 3, 0, 0, 1);
        Check.instruction(forge, 4, 4, 4, 0, 0, NONE);
        TreeCoverForge swapped = Check.plain(FOUR);
        Check.due("cover()", swapped.cover(), 7);
        Check.instruction(swapped, 4, 6, 4, 0, 2, 0);
        Check.instruction(swapped, 6, 6, 6, 0, 3, 0);
    }

    private static void sourcesThatAreNot() {
        Check.sentence("14: (NONE if it has not that source)");
        for (int op = 0; op < 8; op++) {
            TreeCoverForge forge = Check.plain();
            Check.rule(forge, 8, 1, 8, 0, 0, 1);
            for (int kid = 0; kid < (op < 3 ? 0 : op < 5 ? 1 : 2); kid++) {
                Check.pushAll(forge, 0, 1);
            }
            Check.pushAll(forge, op, 1);
            int last = forge.cover() - 1;
            Check.due("instruction(" + last + ", 3)", forge.instruction(last, 3) == NONE, op < 3);
            Check.due("instruction(" + last + ", 4)", forge.instruction(last, 4) == NONE, op < 5);
        }
        TreeCoverForge chained = Check.with(new int[] {1, 0, 0, 0, 1}, new int[] {0, 8, 1, 0, 1});
        Check.pushAll(chained, 0, 1);
        Check.due("cover()", chained.cover(), 2);
        Check.instruction(chained, 1, 1, 0, 0, 0, NONE);
    }

    private static void noSuchInstruction() {
        Check.sentence("14: BAD when there is no such instruction");
        TreeCoverForge forge = new TreeCoverForge();
        for (int what = 0; what <= 4; what++) {
            for (int i : Check.outside(0, 0)) {
                Check.due("instruction(" + i + ", " + what + ")", forge.instruction(i, what), BAD);
            }
            Check.due("instruction(0, " + what + ")", forge.instruction(0, what), BAD);
        }
        forge = Check.plain(0, 1, 0, 2, 5, 0);
        Check.due("cover()", forge.cover(), 3);
        for (int what = 0; what <= 4; what++) {
            for (int i : Check.outside(0, 2)) {
                Check.due("instruction(" + i + ", " + what + ")", forge.instruction(i, what), BAD);
            }
            for (int i : new int[] {4, 159, 160, 161}) {
                Check.due("instruction(" + i + ", " + what + ")", forge.instruction(i, what), BAD);
            }
            Check.due("instruction(2, " + what + ")", forge.instruction(2, what) >= 0, true);
        }
    }

    private static void noSuchPart() {
        Check.sentence("14: BAD when .. what is not 0 .. 4");
        TreeCoverForge forge = Check.plain(0, 1, 0, 2, 5, 0);
        Check.due("cover()", forge.cover(), 3);
        for (int i = 0; i < 3; i++) {
            for (int what : Check.outside(0, 4)) {
                Check.due("instruction(" + i + ", " + what + ")", forge.instruction(i, what), BAD);
            }
        }
        Check.instruction(forge, 2, 5, 2, 0, 0, 1);
    }

    private static void instructionTellsBadFirst() {
        Check.sentence("14: BAD when there is no such instruction or what is not 0 .. 4 (for a source, too)");
        TreeCoverForge forge = Check.plain(0, 1);
        Check.due("cover()", forge.cover(), 1);
        Check.instruction(forge, 0, 0, 0, 0, NONE, NONE, BAD, BAD);
        Check.instruction(forge, 1, BAD, BAD, BAD, BAD, BAD, BAD, BAD);
        Check.instruction(forge, -1, BAD, BAD, BAD, BAD, BAD, BAD, BAD);
    }

    private static void fiveInstructions(TreeCoverForge forge) {
        Check.instruction(forge, 0, 1, 0, 1, NONE, NONE);
        Check.instruction(forge, 1, 0, 1, 0, NONE, NONE);
        Check.instruction(forge, 2, 2, 2, 2, NONE, NONE);
        Check.instruction(forge, 3, 7, 3, 0, 0, 2);
        Check.instruction(forge, 4, 6, 4, 0, 1, 0);
        Check.instruction(forge, 5, BAD);
        Check.due("slots()", forge.slots(), 2);
        Check.due("run()", forge.run(), 5 - 6 * 103);
    }

    /** Variable 4, which is 5, less 6 times place 3. */
    private static TreeCoverForge five() {
        TreeCoverForge forge = Check.plain(0, 77, 1, 4, 0, 6, 2, 3, 7, 0, 6, 0);
        forge.registers(1);
        forge.set(4, 5);
        Check.due("cover()", forge.cover(), 5);
        fiveInstructions(forge);
        return forge;
    }

    private static void codeStaysWhateverBecomesOfRules() {
        Check.sentence("14: (What the code says stays so, whatever becomes of rules ..)");
        TreeCoverForge forge = five();
        Check.rule(forge, 8, 0, 0, 0, 0, 0);
        fiveInstructions(forge);
        forge.clear();
        fiveInstructions(forge);
        for (int number = 0; number < 24; number++) {
            Check.rule(forge, number, 1, number % 3, 0, 0, 0);
        }
        Check.due("cover()", forge.cover(), NONE);
        Check.due("states()", forge.states(), 4);
        fiveInstructions(forge);
    }

    private static void codeStaysWhateverBecomesOfTrees() {
        Check.sentence("14: (What the code says stays so, whatever becomes of .. trees.)");
        TreeCoverForge forge = five();
        Check.pushAll(forge, 5, 0);
        fiveInstructions(forge);
        forge.pop();
        fiveInstructions(forge);
        Check.pushAll(forge, 2, 7, 2, 7, 1, 7, 5, 0, 3, 0, 7, 0);
        Check.costs(forge, 6);
        Check.due("value()", forge.value(), -107 * 107);
        fiveInstructions(forge);
        forge.registers(4);
        fiveInstructions(forge);
    }

    private static void slotsWithoutCode() {
        Check.sentence("15: How many slots the code uses. (there is no code)");
        TreeCoverForge forge = new TreeCoverForge();
        Check.due("slots()", forge.slots(), 0);
        forge.registers(1);
        Check.pushAll(forge, FOUR);
        Check.due("cover()", forge.cover(), NONE);
        Check.due("slots()", forge.slots(), 0);
    }

    private static void slotsOfTheCode() {
        Check.sentence("15: How many slots the code uses.");
        TreeCoverForge forge = Check.plain(FOUR);
        for (int registers = 4; registers >= 1; registers--) {
            forge.registers(registers);
            Check.due("cover()", forge.cover(), 7);
            Check.due("slots()", forge.slots(), 4 - registers);
            Check.due("slots() again", forge.slots(), 4 - registers);
        }
        Check.pushAll(forge, 3, 0);
        Check.due("slots() after push()", forge.slots(), 3);
        forge.pop();
        Check.due("slots() after pop()", forge.slots(), 3);
        Check.pushAll(forge, 0, 1);
        Check.due("cover()", forge.cover(), 1);
        Check.due("slots() of other code", forge.slots(), 0);
    }

    private static void kidsBeforeOperators() {
        Check.sentence("Terms: First come the instructions of the covers of the kids, the left one's before the right one's, then that of the operator rule");
        TreeCoverForge forge = Check.with(new int[] {0, 0, 0, 0, 1}, new int[] {1, 1, 0, 0, 1},
                new int[] {2, 3, 1, 0, 1}, new int[] {0, 6, 0, 2, 1}, new int[] {0, 7, 2, 0, 1});
        Check.pushAll(forge, 0, 7, 1, 0, 3, 0, 6, 0);
        Check.due("cover()", forge.cover(), 4);
        int[] rules = {0, 1, 2, 3};
        for (int i = 0; i < 4; i++) {
            Check.instruction(forge, i, rules[i], i);
        }
        Check.instruction(forge, 3, 3, 3, 0, 0, 1);
        forge.pop();
        Check.pushAll(forge, 1, 0, 3, 0, 0, 7, 7, 0);
        Check.due("cover()", forge.cover(), 4);
        int[] others = {1, 2, 0, 4};
        for (int i = 0; i < 4; i++) {
            Check.instruction(forge, i, others[i], i);
        }
    }

    private static void chainRulesBehind() {
        Check.sentence("Terms: behind those of the cover that a chain rule takes, that of the chain rule");
        TreeCoverForge forge = Check.with(new int[] {0, 8, 1, 0, 1}, new int[] {1, 8, 2, 0, 1},
                new int[] {2, 0, 0, 0, 1}, new int[] {2, 6, 0, 1, 1});
        Check.pushAll(forge, 0, 40, 0, 5, 6, 0);
        Check.due("cover()", forge.cover(), 8);
        int[] rules = {2, 1, 0, 2, 1, 3, 1, 0};
        int[] nodes = {0, 0, 0, 1, 1, 2, 2, 2};
        int[] places = {0, 0, 0, 1, 1, 0, 0, 0};
        int[] firsts = {NONE, 0, 0, NONE, 1, 0, 0, 0};
        for (int i = 0; i < 8; i++) {
            Check.instruction(forge, i, rules[i], nodes[i], places[i], firsts[i], i == 5 ? 1 : NONE);
        }
        Check.due("run()", forge.run(), 35);
    }
}

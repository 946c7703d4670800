/** Promises 1 to 3, sentence by sentence: a new object, rule, clear. */
public final class RuleEdgeTest {
    private static final int BAD = TreeCoverForge.BAD;
    private static final int FULL = TreeCoverForge.FULL;
    private static final int NONE = TreeCoverForge.NONE;
    private static final int CHAIN = 8;

    public static void main(String[] args) {
        Check.each(
                RuleEdgeTest::noRulesAtFirst,
                RuleEdgeTest::noTreesAtFirst,
                RuleEdgeTest::noCodeAtFirst,
                RuleEdgeTest::objectsShareNothing,
                RuleEdgeTest::numbersAreAnswered,
                RuleEdgeTest::kindOutOfBounds,
                RuleEdgeTest::operatorOutOfBounds,
                RuleEdgeTest::firstKindOutOfBounds,
                RuleEdgeTest::secondKindOutOfBounds,
                RuleEdgeTest::firstKindOfLeaf,
                RuleEdgeTest::secondKindOfOthers,
                RuleEdgeTest::kindOfChain,
                RuleEdgeTest::costOutOfBounds,
                RuleEdgeTest::costOfChain,
                RuleEdgeTest::fullAtTwentyFour,
                RuleEdgeTest::badBeforeFull,
                RuleEdgeTest::everyCallRoundTheBounds,
                RuleEdgeTest::everyRuleIsWhatItSays,
                RuleEdgeTest::allRulesAreGone,
                RuleEdgeTest::clearOfNothing,
                RuleEdgeTest::treesStay,
                RuleEdgeTest::codeStays,
                RuleEdgeTest::registersAndVariablesStay);
    }

    /** Refused by a new object and by one with rules, which then give the numbers as before. */
    private static void refused(int kind, int op, int a, int b, int cost) {
        TreeCoverForge forge = new TreeCoverForge();
        Check.rule(forge, BAD, kind, op, a, b, cost);
        Check.rule(forge, 0, 3, 7, 3, 3, 9);
        Check.rule(forge, BAD, kind, op, a, b, cost);
        Check.rule(forge, 1, 0, 0, 0, 0, 0);
    }

    /** Taken by a new object, and at last as the 24th rule of another. */
    private static void taken(int kind, int op, int a, int b, int cost) {
        TreeCoverForge forge = new TreeCoverForge();
        for (int number = 0; number < 24; number++) {
            Check.rule(forge, number, kind, op, a, b, cost);
        }
    }

    /** A kind for the first kid, or the other kind of a chain rule, that no bound forbids. */
    private static int goodFirst(int kind, int op) {
        return op == CHAIN && kind == 0 ? 1 : 0;
    }

    private static void noRulesAtFirst() {
        Check.sentence("1: No rules");
        TreeCoverForge forge = new TreeCoverForge();
        Check.due("states()", forge.states(), 1);
        Check.pushAll(forge, 0, 1, 1, 1, 2, 1, 3, 0, 4, 0, 5, 0, 0, 1, 6, 0, 7, 0);
        for (int node = 0; node < 9; node++) {
            for (int kind = 0; kind < 4; kind++) {
                Check.label(forge, node, kind, NONE, NONE);
            }
        }
        Check.costs(forge, NONE, NONE, NONE, NONE);
        Check.due("cover()", forge.cover(), NONE);
        Check.rule(forge, 0, 0, 0, 0, 0, 0);
        for (int number = 1; number < 24; number++) {
            Check.rule(forge, number, 0, 0, 0, 0, 0);
        }
    }

    private static void noTreesAtFirst() {
        Check.sentence("1: no trees");
        TreeCoverForge forge = new TreeCoverForge();
        Check.plainRules(forge);
        Check.pile(forge, 0, 0);
        Check.due("pop()", forge.pop(), false);
        Check.due("value()", forge.value(), 0);
        Check.due("cover()", forge.cover(), BAD);
        Check.costs(forge, BAD, BAD, BAD, BAD);
        for (int op = 3; op < 8; op++) {
            Check.push(forge, BAD, op, 0);
        }
        for (int trees = 1; trees <= 40; trees++) {
            Check.push(forge, trees, 0, 0);
        }
    }

    private static void noCodeAtFirst() {
        Check.sentence("1: no code");
        TreeCoverForge forge = new TreeCoverForge();
        for (int time = 0; time < 2; time++) {
            Check.due("run()", forge.run(), 0);
            Check.due("slots()", forge.slots(), 0);
            for (int what = 0; what <= 4; what++) {
                Check.due("instruction(0, " + what + ")", forge.instruction(0, what), BAD);
            }
            Check.plainRules(forge);
            forge.clear();
            Check.pushAll(forge, 0, 5, 3, 0);
        }
    }

    private static void objectsShareNothing() {
        Check.sentence("1: A new object, beside one that is in use");
        TreeCoverForge old = Check.plain(1, 3, 0, 2, 7, 0);
        old.registers(1);
        old.set(3, 7);
        Check.due("cover()", old.cover(), 3);
        TreeCoverForge forge = new TreeCoverForge();
        Check.pile(forge, 0, 0);
        Check.due("states()", forge.states(), 1);
        Check.due("run()", forge.run(), 0);
        Check.due("slots()", forge.slots(), 0);
        Check.push(forge, 1, 1, 3);
        Check.due("value()", forge.value(), 0);
        Check.rule(forge, 0, 0, 1, 0, 0, 9);
        Check.rule(forge, 1, 0, 5, 0, 0, 9);
        Check.push(forge, 2, 1, 3);
        Check.push(forge, 1, 5, 0);
        Check.places(forge, 0, 1, 0);
        forge.set(3, 1000);
        forge.clear();
        Check.due("run() of the old one", old.run(), 14);
        Check.due("slots() of the old one", old.slots(), 1);
        Check.due("states() of the old one", old.states(), 8);
        Check.costs(old, 3, NONE, NONE, NONE);
        Check.pile(old, 1, 3);
    }

    private static void numbersAreAnswered() {
        Check.sentence("2: Makes an operator rule (op 0 .. 7) or a chain rule (op 8, the other kind is a): its number");
        TreeCoverForge forge = new TreeCoverForge();
        for (int number = 0; number < 24; number++) {
            int op = number % 9;
            Check.rule(forge, number, 0, op, goodFirst(0, op), 0, 1 + number % 9);
        }
    }

    private static void kindOutOfBounds() {
        Check.sentence("2: BAD when kind is not 0 .. 3");
        for (int op = 0; op <= CHAIN; op++) {
            for (int kind : Check.outside(0, 3)) {
                refused(kind, op, 0, 0, 1);
            }
            for (int kind = 0; kind <= 3; kind++) {
                taken(kind, op, goodFirst(kind, op), 0, 1);
            }
        }
    }

    private static void operatorOutOfBounds() {
        Check.sentence("2: BAD when .. op not 0 .. 8");
        for (int op : Check.outside(0, 8)) {
            refused(0, op, 0, 0, 1);
            refused(0, op, 1, 0, 1);
            refused(0, op, 1, 1, 1);
        }
        for (int op = 0; op <= 8; op++) {
            taken(0, op, goodFirst(0, op), 0, 1);
        }
    }

    private static void firstKindOutOfBounds() {
        Check.sentence("2: BAD when .. a .. is not 0 .. 3");
        for (int op = 0; op <= CHAIN; op++) {
            for (int a : Check.outside(0, 3)) {
                refused(0, op, a, 0, 1);
            }
            for (int a = 0; a <= 3 && op >= 3; a++) {
                taken(a == 3 ? 0 : 3, op, a, 0, 1);
            }
        }
    }

    private static void secondKindOutOfBounds() {
        Check.sentence("2: BAD when .. b is not 0 .. 3");
        for (int op = 0; op <= CHAIN; op++) {
            for (int b : Check.outside(0, 3)) {
                refused(0, op, goodFirst(0, op), b, 1);
            }
            for (int b = 0; b <= 3 && op >= 5 && op <= 7; b++) {
                taken(0, op, 0, b, 1);
            }
        }
    }

    private static void firstKindOfLeaf() {
        Check.sentence("2: BAD when .. a is not 0 for a leaf");
        for (int kind = 0; kind <= 3; kind++) {
            for (int op = 0; op <= 2; op++) {
                for (int a = 1; a <= 3; a++) {
                    refused(kind, op, a, 0, 1);
                }
                taken(kind, op, 0, 0, 1);
            }
            for (int op = 3; op <= 7; op++) {
                taken(kind, op, 1, 0, 1);
            }
        }
    }

    private static void secondKindOfOthers() {
        Check.sentence("2: BAD when .. b is not 0 for any but a binary operator");
        for (int op = 0; op <= CHAIN; op++) {
            boolean binary = op >= 5 && op <= 7;
            for (int b = 1; b <= 3; b++) {
                if (binary) {
                    taken(0, op, 0, b, 1);
                } else {
                    refused(0, op, goodFirst(0, op), b, 1);
                }
            }
            taken(0, op, goodFirst(0, op), 0, 1);
        }
    }

    private static void kindOfChain() {
        Check.sentence("2: BAD when .. a is kind for a chain rule");
        for (int kind = 0; kind <= 3; kind++) {
            for (int a = 0; a <= 3; a++) {
                if (a == kind) {
                    refused(kind, CHAIN, a, 0, 1);
                    refused(kind, CHAIN, a, 0, 9);
                } else {
                    taken(kind, CHAIN, a, 0, 1);
                }
            }
            for (int op = 3; op <= 7; op++) {
                taken(kind, op, kind, 0, 1);
            }
        }
    }

    private static void costOutOfBounds() {
        Check.sentence("2: BAD when .. cost is not 0 .. 9");
        for (int op = 0; op <= CHAIN; op++) {
            for (int cost : Check.outside(0, 9)) {
                refused(0, op, goodFirst(0, op), 0, cost);
            }
            taken(0, op, goodFirst(0, op), 0, 9);
            if (op != CHAIN) {
                taken(0, op, 0, 0, 0);
            }
        }
    }

    private static void costOfChain() {
        Check.sentence("2: BAD when .. cost is 0 for a chain rule");
        for (int kind = 0; kind <= 3; kind++) {
            int other = kind == 3 ? 0 : kind + 1;
            refused(kind, CHAIN, other, 0, 0);
            taken(kind, CHAIN, other, 0, 1);
            taken(kind, CHAIN, other, 0, 9);
        }
    }

    private static TreeCoverForge full() {
        TreeCoverForge forge = new TreeCoverForge();
        for (int number = 0; number < 24; number++) {
            Check.rule(forge, number, number % 4, number % 3, 0, 0, 9);
        }
        return forge;
    }

    private static void fullAtTwentyFour() {
        Check.sentence("2: FULL when there are 24");
        TreeCoverForge forge = full();
        Check.due("states()", forge.states(), 4);
        Check.pushAll(forge, 0, 1);
        for (int time = 0; time < 3; time++) {
            for (int op = 0; op <= CHAIN; op++) {
                for (int kind = 0; kind < 4; kind++) {
                    Check.rule(forge, FULL, kind, op, goodFirst(kind, op), 0, op == CHAIN ? 1 : 0);
                }
            }
        }
        Check.due("states()", forge.states(), 4);
        Check.costs(forge, 9, 9, 9, 9);
        int[] choices = {0, 9, 6, 3};
        for (int kind = 0; kind < 4; kind++) {
            Check.label(forge, 0, kind, 0, choices[kind]);
        }
        forge.clear();
        for (int number = 0; number < 24; number++) {
            Check.rule(forge, number, 3, CHAIN, 2, 0, 9);
        }
        Check.rule(forge, FULL, 3, CHAIN, 2, 0, 9);
    }

    private static void badBeforeFull() {
        Check.sentence("Terms: refusals are tested in the order in which they are named (rule: BAD, then FULL)");
        TreeCoverForge forge = full();
        Check.rule(forge, FULL, 0, 0, 0, 0, 0);
        int[][] bad = {{-1, 0, 0, 0, 1}, {4, 0, 0, 0, 1}, {0, -1, 0, 0, 1}, {0, 9, 0, 0, 1},
            {0, 5, -1, 0, 1}, {0, 5, 4, 0, 1}, {0, 5, 0, -1, 1}, {0, 5, 0, 4, 1}, {0, 0, 1, 0, 1},
            {0, 2, 3, 0, 1}, {0, 0, 0, 1, 1}, {0, 3, 0, 1, 1}, {0, 4, 0, 3, 1}, {0, 8, 1, 1, 1},
            {0, 8, 0, 0, 1}, {3, 8, 3, 0, 1}, {0, 0, 0, 0, -1}, {0, 0, 0, 0, 10}, {0, 8, 1, 0, 10},
            {0, 8, 1, 0, 0}};
        for (int[] rule : bad) {
            Check.rule(forge, BAD, rule[0], rule[1], rule[2], rule[3], rule[4]);
        }
        Check.rule(forge, FULL, 0, 0, 0, 0, 0);
    }

    private static boolean isGood(int kind, int op, int a, int b, int cost) {
        boolean inBounds = kind >= 0 && kind <= 3 && op >= 0 && op <= 8 && a >= 0 && a <= 3
                && b >= 0 && b <= 3 && cost >= 0 && cost <= 9;
        boolean leaf = op <= 2;
        boolean binary = op == 5 || op == 6 || op == 7;
        boolean chain = op == 8;
        return inBounds && !(leaf && a != 0) && !(!binary && b != 0) && !(chain && a == kind)
                && !(chain && cost == 0);
    }

    private static void everyCallRoundTheBounds() {
        Check.sentence("2: BAD when .. (every call with arguments in the bounds and one beside them)");
        for (int kind = -1; kind <= 4; kind++) {
            for (int op = -1; op <= 9; op++) {
                for (int a = -1; a <= 4; a++) {
                    TreeCoverForge forge = new TreeCoverForge();
                    for (int b = -1; b <= 4; b++) {
                        for (int cost = -1; cost <= 10; cost++) {
                            Check.rule(forge, isGood(kind, op, a, b, cost) ? 0 : BAD, kind, op, a, b, cost);
                            forge.clear();
                        }
                    }
                }
            }
        }
    }

    /** Its operator over VAR as the first kind and PLACE as the second is covered as its kind at its cost. */
    private static void isWhatItSays(int kind, int op, int a, int b, int cost) {
        TreeCoverForge forge = new TreeCoverForge();
        boolean covered = op >= 3;
        int number = 0;
        if (covered) {
            Check.rule(forge, number++, a, 1, 0, 0, 0);
        }
        if (op >= 5 && op <= 7) {
            Check.rule(forge, number++, b, 2, 0, 0, 0);
        }
        Check.rule(forge, number, kind, op, a, b, cost);
        if (covered) {
            Check.pushAll(forge, 1, 0);
        }
        if (op >= 5 && op <= 7) {
            Check.pushAll(forge, 2, 0);
        }
        if (op != CHAIN) {
            Check.pushAll(forge, op, 0);
        }
        Check.due("cost of rule(" + kind + ", " + op + ", " + a + ", " + b + ", " + cost + ")",
                forge.cost(kind), cost);
        for (int other = 0; other < 4; other++) {
            int due = other == kind ? number : op == CHAIN && other == a ? 0 : NONE;
            Check.due("choice as " + other, forge.choice(forge.nodes() - 1, other), due);
        }
    }

    private static void everyRuleIsWhatItSays() {
        Check.sentence("Terms: a kind that it makes, a cost, and .. an operator and a kind for each of that operator's kids, or .. one other kind");
        for (int kind = 0; kind <= 3; kind++) {
            for (int op = 0; op <= 8; op++) {
                for (int a = 0; a <= 3; a++) {
                    for (int b = 0; b <= 3; b++) {
                        for (int cost = 0; cost <= 9; cost++) {
                            if (isGood(kind, op, a, b, cost)) {
                                isWhatItSays(kind, op, a, b, cost);
                            }
                        }
                    }
                }
            }
        }
    }

    private static void allRulesAreGone() {
        Check.sentence("3: All rules are gone.");
        TreeCoverForge forge = Check.plain(0, 1, 3, 0);
        for (int number = 8; number < 24; number++) {
            Check.rule(forge, number, 1 + number % 3, 8, 0, 0, 1);
        }
        Check.rule(forge, FULL, 0, 0, 0, 0, 0);
        Check.costs(forge, 2, 3, 3, 3);
        Check.due("states()", forge.states(), 8);
        forge.clear();
        Check.due("states()", forge.states(), 1);
        Check.costs(forge, NONE, NONE, NONE, NONE);
        for (int kind = 0; kind < 4; kind++) {
            Check.label(forge, 0, kind, NONE, NONE);
            Check.label(forge, 1, kind, NONE, NONE);
        }
        Check.due("cover()", forge.cover(), NONE);
        Check.rule(forge, 0, 2, 3, 1, 0, 4);
        Check.costs(forge, NONE, NONE, NONE, NONE);
        Check.rule(forge, 1, 1, 0, 0, 0, 3);
        Check.costs(forge, NONE, NONE, 7, NONE);
        for (int number = 2; number < 24; number++) {
            Check.rule(forge, number, 0, 1, 0, 0, 0);
        }
        Check.rule(forge, FULL, 0, 1, 0, 0, 0);
    }

    private static void clearOfNothing() {
        Check.sentence("3: All rules are gone. (there were none)");
        TreeCoverForge forge = new TreeCoverForge();
        forge.clear();
        forge.clear();
        Check.due("states()", forge.states(), 1);
        Check.pile(forge, 0, 0);
        Check.due("run()", forge.run(), 0);
        Check.rule(forge, 0, 0, 0, 0, 0, 0);
        forge.clear();
        forge.clear();
        Check.rule(forge, 0, 0, 0, 0, 0, 0);
        Check.rule(forge, 1, 0, 0, 0, 0, 0);
    }

    private static void treesStay() {
        Check.sentence("3: (Trees .. stay.)");
        TreeCoverForge forge = Check.plain(0, 8, 0, 9, 0, 3, 6, 0);
        forge.clear();
        Check.pile(forge, 2, 3);
        Check.due("value()", forge.value(), 6);
        Check.push(forge, 1, 7, 0);
        Check.due("value()", forge.value(), 48);
        Check.rule(forge, 0, 0, 7, 1, 2, 1);
        Check.rule(forge, 1, 1, 0, 0, 0, 2);
        Check.rule(forge, 2, 2, 6, 1, 1, 3);
        Check.costs(forge, 10, NONE, NONE, NONE);
        Check.due("pop()", forge.pop(), true);
        Check.due("pop()", forge.pop(), false);
    }

    private static void codeStays() {
        Check.sentence("3: (.. code stay.)");
        TreeCoverForge forge = Check.plain(0, 8, 1, 4, 6, 0);
        forge.registers(1);
        Check.due("cover()", forge.cover(), 3);
        forge.clear();
        Check.instruction(forge, 0, 0, 0, 0, NONE, NONE);
        Check.instruction(forge, 1, 1, 1, 1, NONE, NONE);
        Check.instruction(forge, 2, 6, 2, 0, 0, 1);
        Check.due("slots()", forge.slots(), 1);
        forge.set(4, 10);
        Check.due("run()", forge.run(), -2);
        Check.rule(forge, 0, 0, 0, 0, 0, 9);
        Check.due("cover()", forge.cover(), NONE);
        Check.due("run()", forge.run(), -2);
    }

    private static void registersAndVariablesStay() {
        Check.sentence("3: All rules are gone. (and nothing else)");
        TreeCoverForge forge = Check.plain(0, 8, 1, 4, 6, 0);
        forge.registers(1);
        forge.set(4, 10);
        forge.clear();
        Check.due("value()", forge.value(), -2);
        Check.plainRules(forge);
        Check.places(forge, 0, 1, 0);
        Check.due("slots()", forge.slots(), 1);
        Check.due("run()", forge.run(), -2);
    }
}

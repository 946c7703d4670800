/** Promises 1 to 3: a new object, rule, clear. */
public final class RuleTest {
    public static void main(String[] args) {
        Check.each(
                RuleTest::newObject,
                RuleTest::numbersInTheirOrder,
                RuleTest::badRules,
                RuleTest::boundsThatAreTaken,
                RuleTest::fullOfRules,
                RuleTest::clearTakesRulesOnly);
    }

    private static void newObject() {
        TreeCoverForge forge = new TreeCoverForge();
        Check.due("trees()", forge.trees(), 0);
        Check.due("nodes()", forge.nodes(), 0);
        Check.due("pop()", forge.pop(), false);
        Check.due("states()", forge.states(), 1);
        Check.due("relative(0, 0)", forge.relative(0, 0), TreeCoverForge.BAD);
        Check.due("choice(0, 0)", forge.choice(0, 0), TreeCoverForge.BAD);
        Check.due("cost(0)", forge.cost(0), TreeCoverForge.BAD);
        Check.due("cover()", forge.cover(), TreeCoverForge.BAD);
        Check.due("instruction(0, 0)", forge.instruction(0, 0), TreeCoverForge.BAD);
        Check.due("slots()", forge.slots(), 0);
        Check.due("run()", forge.run(), 0);
        Check.due("value()", forge.value(), 0);
        for (int v = 0; v < 8; v++) {
            Check.pushAll(forge, 1, v);
            Check.due("value of variable " + v, forge.value(), 0);
        }
        Check.due("cost without rules", forge.cost(0), TreeCoverForge.NONE);
        Check.due("rule(3, 0, 0, 0, 0)", forge.rule(3, 0, 0, 0, 0), 0);
    }

    private static void numbersInTheirOrder() {
        TreeCoverForge forge = new TreeCoverForge();
        int due = 0;
        for (int op = 0; op < 8; op++) {
            Check.due("rule of " + op, forge.rule(op % 4, op, 0, 0, op), due++);
        }
        Check.due("chain rule", forge.rule(0, 8, 3, 0, 1), due++);
        Check.due("the same again", forge.rule(0, 8, 3, 0, 1), due++);
    }

    private static void bad(TreeCoverForge forge, int kind, int op, int a, int b, int cost) {
        String call = "rule(" + kind + ", " + op + ", " + a + ", " + b + ", " + cost + ")";
        Check.due(call, forge.rule(kind, op, a, b, cost), TreeCoverForge.BAD);
    }

    private static void badRules() {
        TreeCoverForge forge = new TreeCoverForge();
        allBadOnes(forge);
        Check.due("states() after refusals", forge.states(), 1);
        Check.due("number after refusals", forge.rule(0, 0, 0, 0, 0), 0);
        allBadOnes(forge);
        Check.due("number after more refusals", forge.rule(0, 0, 0, 0, 0), 1);
    }

    private static void allBadOnes(TreeCoverForge forge) {
        int[] far = {-1, 4, 100, Integer.MIN_VALUE, Integer.MAX_VALUE};
        for (int x : far) {
            for (int op = 0; op <= 8; op++) {
                bad(forge, x, op, op == 8 ? 1 : 0, 0, 1);
                bad(forge, 0, op, x, 0, 1);
                bad(forge, 0, op, op == 8 ? 1 : 0, x, 1);
            }
        }
        for (int op : new int[] {-1, 9, 100, Integer.MIN_VALUE, Integer.MAX_VALUE}) {
            bad(forge, 0, op, 0, 0, 1);
            bad(forge, 0, op, 1, 0, 1);
        }
        for (int x = 1; x < 4; x++) {
            for (int op = 0; op <= 2; op++) {
                bad(forge, 0, op, x, 0, 1);
                bad(forge, 0, op, 0, x, 1);
            }
            bad(forge, 0, 3, 0, x, 1);
            bad(forge, 0, 4, x, x, 1);
            bad(forge, 0, 8, 1, x, 1);
        }
        for (int kind = 0; kind < 4; kind++) {
            bad(forge, kind, 8, kind, 0, 1);
            bad(forge, kind, 8, (kind + 1) % 4, 0, 0);
        }
        for (int op = 0; op <= 8; op++) {
            for (int cost : new int[] {-1, 10, Integer.MIN_VALUE, Integer.MAX_VALUE}) {
                bad(forge, 0, op, op == 8 ? 1 : 0, 0, cost);
            }
        }
    }

    private static void boundsThatAreTaken() {
        for (int op = 0; op <= 8; op++) {
            TreeCoverForge forge = new TreeCoverForge();
            int least = op == 8 ? 1 : 0;
            int a = op < 3 ? 0 : 3;
            int b = op >= 5 && op <= 7 ? 3 : 0;
            int kind = op == 8 ? 2 : 3;
            Check.due("least cost of " + op, forge.rule(0, op, op == 8 ? 1 : 0, 0, least), 0);
            Check.due("greatest cost of " + op, forge.rule(kind, op, a, b, 9), 1);
        }
    }

    private static void fullOfRules() {
        TreeCoverForge forge = new TreeCoverForge();
        for (int i = 0; i < 24; i++) {
            Check.due("rule " + i, forge.rule(i % 4, 0, 0, 0, 9), i);
        }
        Check.due("rule 24", forge.rule(0, 0, 0, 0, 0), TreeCoverForge.FULL);
        Check.due("chain rule 24", forge.rule(0, 8, 1, 0, 1), TreeCoverForge.FULL);
        allBadOnes(forge);
        Check.pushAll(forge, 0, 7);
        Check.due("cost(0) after refusals", forge.cost(0), 9);
        Check.due("choice(0, 3) after refusals", forge.choice(0, 3), 3);
        forge.clear();
        for (int i = 0; i < 24; i++) {
            Check.due("rule " + i + " after clear", forge.rule(0, 8, 1, 0, 1), i);
        }
        Check.due("rule 24 after clear", forge.rule(0, 8, 1, 0, 1), TreeCoverForge.FULL);
    }

    private static void clearTakesRulesOnly() {
        TreeCoverForge forge = new TreeCoverForge();
        forge.clear();
        Check.due("states() after an empty clear", forge.states(), 1);
        Check.plainRules(forge);
        Check.due("chain rule", forge.rule(1, 8, 0, 0, 2), 8);
        forge.registers(1);
        forge.set(3, 11);
        Check.pushAll(forge, 0, 1, 1, 3, 0, 4, 5, 0);
        Check.due("cover()", forge.cover(), 3);
        Check.due("cost(1)", forge.cost(1), 5);
        forge.clear();
        Check.due("states()", forge.states(), 1);
        Check.due("trees()", forge.trees(), 2);
        Check.due("nodes()", forge.nodes(), 3);
        Check.due("value()", forge.value(), 15);
        Check.due("cost(0)", forge.cost(0), TreeCoverForge.NONE);
        Check.due("cost(1)", forge.cost(1), TreeCoverForge.NONE);
        Check.due("choice(2, 0)", forge.choice(2, 0), TreeCoverForge.NONE);
        Check.due("relative(2, 0)", forge.relative(2, 0), TreeCoverForge.NONE);
        Check.due("cover()", forge.cover(), TreeCoverForge.NONE);
        Check.due("run()", forge.run(), 15);
        Check.due("slots()", forge.slots(), 1);
        Check.instruction(forge, 0, 1, 0, 0, TreeCoverForge.NONE, TreeCoverForge.NONE);
        Check.instruction(forge, 2, 5, 2, 0, 0, 1);
        Check.due("first rule after clear", forge.rule(2, 5, 3, 3, 9), 0);
        Check.due("old rules are gone", forge.cost(0), TreeCoverForge.NONE);
        Check.due("second rule after clear", forge.rule(3, 0, 0, 0, 4), 1);
        Check.due("third rule after clear", forge.rule(3, 1, 0, 0, 2), 2);
        Check.due("cost(2) by new rules", forge.cost(2), 15);
        Check.due("choice(2, 2) by new rules", forge.choice(2, 2), 0);
    }
}

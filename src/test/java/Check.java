/** What the tests share: it prints every answer that is not the one that is due. */
final class Check {
    private static int wrong = 0;
    private static int asked = 0;

    private Check() {
    }

    static void due(String call, long got, long want) {
        asked++;
        if (got != want) {
            wrong++;
            System.out.println(call + " answered " + got + ", due is " + want);
        }
    }

    static void due(String call, boolean got, boolean want) {
        due(call, got ? 1L : 0L, want ? 1L : 0L);
    }

    static void finish() {
        if (wrong != 0 || asked == 0) {
            System.out.println(wrong + " of " + asked + " answers are not as due");
            System.exit(1);
        }
    }

    /** Puts trees on the pile: pairs of an operator and a number. */
    static void pushAll(TreeCoverForge forge, int... pairs) {
        for (int i = 0; i + 1 < pairs.length; i += 2) {
            int answer = forge.push(pairs[i], pairs[i + 1]);
            due("push(" + pairs[i] + ", " + pairs[i + 1] + ") is taken", answer > 0, true);
        }
    }

    /** Puts a sum of so many constants 1, a power of 2, all at the same depth. */
    static void pushFull(TreeCoverForge forge, int leaves) {
        if (leaves == 1) {
            pushAll(forge, 0, 1);
        } else {
            pushFull(forge, leaves / 2);
            pushFull(forge, leaves / 2);
            pushAll(forge, 5, 0);
        }
    }

    /** Makes rules that cover every tree as kind 0, every rule at cost 1 and with its operator's number. */
    static void plainRules(TreeCoverForge forge) {
        for (int op = 0; op < 8; op++) {
            due("rule(0, " + op + ", 0, 0, 1)", forge.rule(0, op, 0, 0, 1), op);
        }
    }

    /** Asks for all five parts of instruction i. */
    static void instruction(TreeCoverForge forge, int i, int... parts) {
        for (int what = 0; what < parts.length; what++) {
            due("instruction(" + i + ", " + what + ")", forge.instruction(i, what), parts[what]);
        }
    }
}

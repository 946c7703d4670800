/** What the tests share: it prints every answer that is not the one that is due. */
final class Check {
    private static int wrong = 0;
    private static int asked = 0;
    private static String sentence = "";
    private static int askedBefore = 0;

    private Check() {
    }

    /** What is asked from here on is what this sentence of the document says. */
    static void sentence(String words) {
        endSentence();
        sentence = words;
        askedBefore = asked;
    }

    private static void endSentence() {
        if (!sentence.isEmpty() && asked == askedBefore) {
            wrong++;
            System.out.println("[" + sentence + "] nothing was asked");
        }
    }

    static void due(String call, long got, long want) {
        asked++;
        if (got != want) {
            wrong++;
            String where = sentence.isEmpty() ? "" : "[" + sentence + "] ";
            System.out.println(where + call + " answered " + got + ", due is " + want);
        }
    }

    static void due(String call, boolean got, boolean want) {
        due(call, got ? 1L : 0L, want ? 1L : 0L);
    }

    /** Runs all parts of a test: one that throws is wrong, and the others are run all the same. */
    static void each(Runnable... parts) {
        for (Runnable part : parts) {
            try {
                part.run();
            } catch (RuntimeException thrown) {
                due("a call that throws " + thrown, true, false);
            }
        }
        finish();
    }

    static void finish() {
        endSentence();
        if (wrong != 0 || asked == 0) {
            System.out.println(wrong + " of " + asked + " answers are not as due");
            System.exit(1);
        }
    }

    /** Beside both bounds, far from them, and what a byte or a short would take for 0. */
    static int[] outside(int least, int greatest) {
        return new int[] {least - 1, greatest + 1, -256, 256, -65536, 65536,
            Integer.MIN_VALUE, Integer.MAX_VALUE};
    }

    static void rule(TreeCoverForge forge, int due, int kind, int op, int a, int b, int cost) {
        due("rule(" + kind + ", " + op + ", " + a + ", " + b + ", " + cost + ")",
                forge.rule(kind, op, a, b, cost), due);
    }

    static void push(TreeCoverForge forge, int due, int op, int v) {
        due("push(" + op + ", " + v + ")", forge.push(op, v), due);
    }

    /** Asks for the trees on the pile and for the nodes of the top one. */
    static void pile(TreeCoverForge forge, int trees, int nodes) {
        due("trees()", forge.trees(), trees);
        due("nodes()", forge.nodes(), nodes);
    }

    static void label(TreeCoverForge forge, int node, int kind, int relative, int choice) {
        due("relative(" + node + ", " + kind + ")", forge.relative(node, kind), relative);
        due("choice(" + node + ", " + kind + ")", forge.choice(node, kind), choice);
    }

    /** Asks for the costs of the top tree as kinds 0, 1, .. */
    static void costs(TreeCoverForge forge, int... due) {
        for (int kind = 0; kind < due.length; kind++) {
            due("cost(" + kind + ")", forge.cost(kind), due[kind]);
        }
    }

    /** Covers the top tree and asks for the places of the results of all instructions. */
    static void places(TreeCoverForge forge, int... due) {
        due("cover()", forge.cover(), due.length);
        for (int i = 0; i < due.length; i++) {
            due("instruction(" + i + ", 2)", forge.instruction(i, 2), due[i]);
        }
    }

    /** Puts trees on the pile: pairs of an operator and a number. */
    static void pushAll(TreeCoverForge forge, int... pairs) {
        for (int i = 0; i + 1 < pairs.length; i += 2) {
            int answer = forge.push(pairs[i], pairs[i + 1]);
            due("push(" + pairs[i] + ", " + pairs[i + 1] + ") is taken", answer > 0, true);
        }
    }

    /** Puts a sum of so many constants 1, a power of 2, all at the same depth. */
    static void pushFull(TreeCoverForge forge, int leaves) {
        if (leaves == 1) {
            pushAll(forge, 0, 1);
        } else {
            pushFull(forge, leaves / 2);
            pushFull(forge, leaves / 2);
            pushAll(forge, 5, 0);
        }
    }

    /** Puts a constant 1 and so many NEGs over it: a tree of that height. */
    static void pushHigh(TreeCoverForge forge, int height) {
        pushAll(forge, 0, 1);
        for (int i = 1; i < height; i++) {
            pushAll(forge, 3, 0);
        }
    }

    /** Makes rules that cover every tree as kind 0, every rule at cost 1 and with its operator's number. */
    static void plainRules(TreeCoverForge forge) {
        for (int op = 0; op < 8; op++) {
            due("rule(0, " + op + ", 0, 0, 1)", forge.rule(0, op, 0, 0, 1), op);
        }
    }

    /** A forge with plain rules and these trees. */
    static TreeCoverForge plain(int... pairs) {
        TreeCoverForge forge = new TreeCoverForge();
        plainRules(forge);
        pushAll(forge, pairs);
        return forge;
    }

    /** A forge with these rules, each a kind, an operator, two kinds and a cost. */
    static TreeCoverForge with(int[]... rules) {
        TreeCoverForge forge = new TreeCoverForge();
        for (int i = 0; i < rules.length; i++) {
            int[] rule = rules[i];
            due("rule " + i, forge.rule(rule[0], rule[1], rule[2], rule[3], rule[4]), i);
        }
        return forge;
    }

    /** Asks for all five parts of instruction i. */
    static void instruction(TreeCoverForge forge, int i, int... parts) {
        for (int what = 0; what < parts.length; what++) {
            due("instruction(" + i + ", " + what + ")", forge.instruction(i, what), parts[what]);
        }
    }
}

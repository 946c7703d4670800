import java.util.ArrayList;
import java.util.HashSet;
import java.util.List;
import java.util.Set;

/** The document's words turned into code as plainly as can be, to set the class against. */
final class Model {
    static final int NONE = TreeCoverForge.NONE;

    record Rule(int kind, int op, int a, int b, int cost) {
    }

    record Tree(int op, int v, Tree left, Tree right) {
        int size() {
            return 1 + (left == null ? 0 : left.size()) + (right == null ? 0 : right.size());
        }

        int height() {
            int below = left == null ? 0 : left.height();
            return 1 + Math.max(below, right == null ? 0 : right.height());
        }

        void listNodes(List<Tree> into) {
            if (left != null) {
                left.listNodes(into);
            }
            if (right != null) {
                right.listNodes(into);
            }
            into.add(this);
        }
    }

    /** For each kind the least cost, or NONE, and the choice, or NONE. */
    record Covers(long[] costs, int[] choices) {
        long least() {
            long least = Long.MAX_VALUE;
            for (long cost : costs) {
                least = cost != NONE && cost < least ? cost : least;
            }
            return least;
        }

        long relative(int kind) {
            return costs[kind] == NONE ? NONE : costs[kind] - least();
        }

        String state() {
            StringBuilder text = new StringBuilder();
            for (int kind = 0; kind < 4; kind++) {
                text.append(relative(kind)).append('/').append(choices[kind]).append(' ');
            }
            return text.toString();
        }

        Covers relativeToLeast() {
            long[] relatives = new long[4];
            for (int kind = 0; kind < 4; kind++) {
                relatives[kind] = relative(kind);
            }
            return new Covers(relatives, choices);
        }
    }

    static final class Instruction {
        final int rule;
        final Tree node;
        final List<Integer> sources = new ArrayList<>();
        int use;
        int place;

        Instruction(int rule, Tree node) {
            this.rule = rule;
            this.node = node;
        }
    }

    final List<Rule> rules = new ArrayList<>();
    final List<Tree> pile = new ArrayList<>();
    final int[] variables = new int[8];
    List<Instruction> code = new ArrayList<>();
    List<Tree> codeNodes = new ArrayList<>();
    int slots = 0;
    int registers = 3;

    static int arity(int op) {
        return op < 3 ? 0 : op < 5 ? 1 : 2;
    }

    Tree top() {
        return pile.isEmpty() ? null : pile.get(pile.size() - 1);
    }

    int valueOf(Tree tree) {
        int left = tree.left() == null ? 0 : valueOf(tree.left());
        int right = tree.right() == null ? 0 : valueOf(tree.right());
        return switch (tree.op()) {
            case 0 -> tree.v();
            case 1 -> variables[tree.v()];
            case 2 -> 100 + tree.v();
            case 3 -> -left;
            case 4 -> left + left;
            case 5 -> left + right;
            case 6 -> left - right;
            default -> left * right;
        };
    }

    /** The least cost of a cover that begins with a rule and takes none of the kinds again; NONE. */
    private long costThrough(Rule rule, int op, Covers left, Covers right, Set<Integer> taken) {
        if (rule.op() == 8) {
            long below = costAs(rule.a(), op, left, right, taken);
            return below == NONE ? NONE : below + rule.cost();
        }
        if (rule.op() != op) {
            return NONE;
        }
        long total = rule.cost();
        if (arity(op) >= 1) {
            if (left.costs()[rule.a()] == NONE) {
                return NONE;
            }
            total += left.costs()[rule.a()];
        }
        if (arity(op) == 2) {
            if (right.costs()[rule.b()] == NONE) {
                return NONE;
            }
            total += right.costs()[rule.b()];
        }
        return total;
    }

    private long costAs(int kind, int op, Covers left, Covers right, Set<Integer> taken) {
        if (taken.contains(kind)) {
            return NONE;
        }
        Set<Integer> more = new HashSet<>(taken);
        more.add(kind);
        long best = NONE;
        for (Rule rule : rules) {
            if (rule.kind() == kind) {
                long cost = costThrough(rule, op, left, right, more);
                best = cost != NONE && (best == NONE || cost < best) ? cost : best;
            }
        }
        return best;
    }

    Covers covers(int op, Covers left, Covers right) {
        long[] costs = new long[4];
        int[] choices = {NONE, NONE, NONE, NONE};
        for (int kind = 0; kind < 4; kind++) {
            costs[kind] = costAs(kind, op, left, right, Set.of());
            for (int r = rules.size() - 1; costs[kind] != NONE && r >= 0; r--) {
                Rule rule = rules.get(r);
                if (rule.kind() == kind
                        && costThrough(rule, op, left, right, Set.of(kind)) == costs[kind]) {
                    choices[kind] = r;
                }
            }
        }
        return new Covers(costs, choices);
    }

    Covers covers(Tree tree) {
        Covers left = tree.left() == null ? null : covers(tree.left());
        Covers right = tree.right() == null ? null : covers(tree.right());
        return covers(tree.op(), left, right);
    }

    /** How many states there are, by ever higher trees; a number over the bound when over it. */
    int states(int bound) {
        Set<String> seen = new HashSet<>();
        List<Covers> all = new ArrayList<>();
        for (int op = 0; op < 3; op++) {
            keep(covers(op, null, null), seen, all);
        }
        int before = 0;
        while (before < all.size() && all.size() <= bound) {
            List<Covers> kids = new ArrayList<>(all);
            int known = before;
            before = all.size();
            for (int i = 0; i < kids.size() && all.size() <= bound; i++) {
                for (int op = 3; op < 5 && i >= known; op++) {
                    keep(covers(op, kids.get(i), null), seen, all);
                }
                for (int j = i < known ? known : 0; j < kids.size(); j++) {
                    for (int op = 5; op < 8 && all.size() <= bound; op++) {
                        keep(covers(op, kids.get(i), kids.get(j)), seen, all);
                    }
                }
            }
        }
        return all.size();
    }

    private static void keep(Covers covers, Set<String> seen, List<Covers> all) {
        if (seen.add(covers.state())) {
            all.add(covers.relativeToLeast());
        }
    }

    int cover() {
        if (covers(top()).costs()[0] == NONE) {
            return NONE;
        }
        code = new ArrayList<>();
        codeNodes = new ArrayList<>();
        top().listNodes(codeNodes);
        write(top(), 0);
        code.get(code.size() - 1).use = code.size() - 1;
        for (int i = 0; i < code.size(); i++) {
            for (int source : code.get(i).sources) {
                code.get(source).use = i;
            }
        }
        givePlaces();
        return code.size();
    }

    /** Writes the cover of a tree as a kind; the number of its latest instruction. */
    private int write(Tree tree, int kind) {
        int number = covers(tree).choices()[kind];
        Rule rule = rules.get(number);
        Instruction made = new Instruction(number, tree);
        if (rule.op() == 8) {
            made.sources.add(write(tree, rule.a()));
        } else {
            if (tree.left() != null) {
                made.sources.add(write(tree.left(), rule.a()));
            }
            if (tree.right() != null) {
                made.sources.add(write(tree.right(), rule.b()));
            }
        }
        code.add(made);
        return code.size() - 1;
    }

    private void givePlaces() {
        slots = 0;
        for (int i = 0; i < code.size(); i++) {
            List<Integer> holding = new ArrayList<>();
            Set<Integer> held = new HashSet<>();
            for (int j = 0; j < i; j++) {
                if (code.get(j).use > i && code.get(j).place < registers) {
                    holding.add(j);
                    held.add(code.get(j).place);
                }
            }
            int free = 0;
            while (held.contains(free)) {
                free++;
            }
            if (free < registers) {
                code.get(i).place = free;
            } else {
                spill(i, holding);
            }
        }
    }

    private void spill(int i, List<Integer> holding) {
        int spilled = i;
        for (int j : holding) {
            if (code.get(j).use > code.get(spilled).use) {
                spilled = j;
            } else if (code.get(j).use == code.get(spilled).use && j > spilled) {
                spilled = j;
            }
        }
        code.get(i).place = code.get(spilled).place;
        code.get(spilled).place = registers + slots;
        slots++;
    }

    /** By identity: two nodes may look the same. */
    int nodeNumber(Tree node) {
        for (int i = 0; i < codeNodes.size(); i++) {
            if (codeNodes.get(i) == node) {
                return i;
            }
        }
        throw new IllegalStateException("no such node");
    }

    int instruction(int i, int what) {
        if (i < 0 || i >= code.size() || what < 0 || what > 4) {
            return TreeCoverForge.BAD;
        }
        Instruction asked = code.get(i);
        return switch (what) {
            case 0 -> asked.rule;
            case 1 -> nodeNumber(asked.node);
            case 2 -> asked.place;
            default -> what - 3 < asked.sources.size()
                    ? code.get(asked.sources.get(what - 3)).place : NONE;
        };
    }
}

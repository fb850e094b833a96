import java.util.ArrayList;
import java.util.List;
import java.util.Map;

/** Runs over many trees, each answer compared with Reference: always the same trees, by a counter of its own. */
public final class ReferenceTest {
    private static final int DESKS = 20000, TREES = 12, LOOKS = 10;
    /** What a bound variable is made for: a number, a truth, a function of a number, a piece. */
    private static final int N = 0, T = 1, F = 2, P = 3;

    private final Checks checks = new Checks();
    private long seed;
    /** One word in so many gives something else than is wanted. */
    private int tameness;
    private final int[] ends = new int[6];
    private int takingsWithValue;
    private int functionTypes;

    public static void main(String[] args) {
        ReferenceTest test = new ReferenceTest();
        for (int i = 1; i <= DESKS; i++) {
            test.seed = i * 0x9E3779B97F4A7C15L;
            test.tameness = i % 4 == 0 ? 3 : 25;
            test.oneDesk(i);
        }
        test.enoughWasSeen();
        test.checks.end("ReferenceTest");
    }

    private int below(int bound) {
        seed = seed * 6364136223846793005L + 1442695040888963407L;
        return (int) ((seed >>> 33) % bound);
    }

    private void oneDesk(int number) {
        MarkDesk desk = new MarkDesk();
        Map<Reference.Tree, Integer> known = Reference.nothingMade();
        State due = new State();
        for (int i = 0; i < TREES; i++) {
            Reference.Tree tree = tree(below(4) == 0 ? F : below(2), 3 + below(7), new ArrayList<>());
            if (tree.height() > 9 || tree.size() > 120) {
                continue;
            }
            int term;
            try {
                term = Reference.makeOn(desk, tree, known);
            } catch (IllegalStateException e) {
                break;
            }
            String what = "desk " + number + ", term " + term + " (" + tree + ")";
            checks.due(what + ": open", desk.open(term), 0);
            workBoth(what, desk, term, tree, due);
            typeBoth(what, desk, term, tree, due);
            lookAt(what, desk, due);
        }
        checks.due("desk " + number + ": count(0)", desk.count(0), known.size());
        for (int i = 1; i <= 5; i++) {
            checks.due("desk " + number + ": count(" + i + ")", desk.count(i), due.counts[i]);
            ends[i] += due.counts[i];
        }
    }

    private static final class State {
        int value;
        int steps;
        int allSteps;
        Reference.Type type;
        final int[] counts = new int[6];
    }

    private void workBoth(String what, MarkDesk desk, int term, Reference.Tree tree, State due) {
        int fuel = below(3) == 0 ? 1 + below(40) : 200;
        Reference.Worker worker = new Reference.Worker(fuel);
        String got = String.valueOf(workOf(desk, term, fuel));
        String want;
        try {
            Reference.Value value = worker.whole(tree);
            want = String.valueOf(value.form());
            due.value = value.number();
            due.steps = worker.steps;
            due.allSteps += worker.steps;
            due.counts[1]++;
            takingsWithValue += tree.toString().contains("kind=10") ? 1 : 0;
        } catch (Reference.Stuck e) {
            want = IllegalArgumentException.class.getName();
            due.counts[2]++;
        } catch (Reference.NeedsMore e) {
            want = IllegalStateException.class.getName();
            due.counts[3]++;
        }
        checks.dueText(what + ": work with " + fuel, got, want);
    }

    private static String workOf(MarkDesk desk, int term, int fuel) {
        int[] answer = new int[1];
        String thrown = Checks.thrownBy(() -> answer[0] = desk.work(term, fuel));
        return thrown.startsWith("nothing") ? String.valueOf(answer[0]) : thrown;
    }

    private void typeBoth(String what, MarkDesk desk, int term, Reference.Tree tree, State due) {
        int[] answer = new int[1];
        String thrown = Checks.thrownBy(() -> answer[0] = desk.type(term));
        String got = thrown.startsWith("nothing") ? String.valueOf(answer[0]) : thrown;
        String want;
        try {
            Reference.Type type = Reference.typeOfWhole(tree);
            want = String.valueOf(type.real().form);
            due.type = type;
            due.counts[4]++;
            functionTypes += type.real().form == MarkDesk.FUNCTION ? 1 : 0;
        } catch (Reference.NoType e) {
            want = IllegalArgumentException.class.getName();
            due.counts[5]++;
        }
        checks.dueText(what + ": type", got, want);
    }

    private void lookAt(String what, MarkDesk desk, State due) {
        checks.due(what + ": value", desk.value(), due.value);
        checks.due(what + ": steps", desk.steps(), due.steps);
        float mean = due.counts[1] == 0 ? 0f : (float) due.allSteps / due.counts[1];
        checks.dueFloat(what + ": mean", desk.mean(), mean);
        if (due.type == null) {
            checks.due(what + ": part(0)", desk.part(0), MarkDesk.NONE);
            return;
        }
        Map<Reference.Type, Integer> letters = Reference.lettersOf(due.type);
        for (int i = 0; i < LOOKS; i++) {
            StringBuilder digits = new StringBuilder();
            int length = i < 5 ? Math.min(i, 1) : below(6);
            for (int j = 0; j < length; j++) {
                digits.append((char) (i < 5 ? '0' + i : '1' + below(below(20) == 0 ? 9 : 4)));
            }
            int path = length == 0 ? 0 : Integer.parseInt(new StringBuilder(digits).reverse().toString());
            int want = Reference.partOf(due.type, letters, digits.toString());
            checks.due(what + ": part(" + path + ")", desk.part(path), want);
        }
    }

    /** Runs that end only one way would show little. */
    private void enoughWasSeen() {
        String[] names = {"", "values", "stuck", "needed more", "types", "no types"};
        for (int i = 1; i <= 5; i++) {
            System.out.println(names[i] + ": " + ends[i]);
            checks.due("enough of: " + names[i], ends[i] >= 1000 ? 1 : 0, 1);
        }
        System.out.println("values with a taking: " + takingsWithValue + ", types of functions: " + functionTypes);
        checks.due("enough values with a taking", takingsWithValue >= 1000 ? 1 : 0, 1);
        checks.due("enough types of functions", functionTypes >= 1000 ? 1 : 0, 1);
    }

    private static Reference.Tree node(int kind, int word, Reference.Tree... words) {
        return new Reference.Tree(kind, word, List.of(words));
    }

    private Reference.Tree bodyWith(int forWhat, int goal, int height, List<Integer> bound) {
        bound.add(0, forWhat);
        Reference.Tree body = tree(goal, height, bound);
        bound.remove(0);
        return body;
    }

    /** A closed tree that mostly gives what the goal says, of at most that height (or a little more). */
    private Reference.Tree tree(int wanted, int height, List<Integer> bound) {
        int goal = below(tameness) == 0 ? below(3) : wanted;
        if (height <= 1 || below(8) == 0) {
            return leaf(goal, bound);
        }
        int h = height - 1;
        switch (below(9)) {
            case 0: return node(Reference.IF, 0, tree(T, h, bound), tree(goal, h, bound), tree(goal, h, bound));
            case 1: {
                int forWhat = below(3);
                return node(Reference.LET, 0, tree(forWhat, h, bound), bodyWith(forWhat, goal, h, bound));
            }
            case 2: return node(Reference.MARK, 0, tree(goal, h, bound));
            case 3:
            case 4: return node(Reference.TAKE, 0, bodyWith(P, below(3) == 0 ? goal : N, h, bound));
            case 5:
            case 6: return call(goal, h, bound);
            default: return ofGoal(goal, h, bound);
        }
    }

    private Reference.Tree call(int goal, int h, List<Integer> bound) {
        int at = bound.indexOf(below(2) == 0 ? P : F);
        if (at >= 0 && at <= 5 && below(4) != 0) {
            return node(Reference.CALL, 0, node(Reference.VAR, at), tree(below(3) == 0 ? T : N, h, bound));
        }
        int kind = below(3) == 0 ? Reference.FIX : Reference.FUN;
        return node(Reference.CALL, 0, lambda(kind, goal, h - 1, bound), tree(N, h, bound));
    }

    private Reference.Tree lambda(int kind, int goal, int h, List<Integer> bound) {
        if (kind == Reference.FIX) {
            bound.add(0, F);
        }
        Reference.Tree made = node(kind, 0, bodyWith(N, goal, h, bound));
        if (kind == Reference.FIX) {
            bound.remove(0);
        }
        return made;
    }

    private Reference.Tree ofGoal(int goal, int h, List<Integer> bound) {
        if (goal == F) {
            return lambda(below(3) == 0 ? Reference.FIX : Reference.FUN, below(3), h, bound);
        }
        return node(goal == N ? Reference.SUM : Reference.LESS, 0, tree(N, h, bound), tree(N, h, bound));
    }

    private Reference.Tree leaf(int goal, List<Integer> bound) {
        if (!bound.isEmpty() && below(3) != 0) {
            int from = below(Math.min(6, bound.size()));
            for (int i = 0; i < Math.min(6, bound.size()); i++) {
                int at = (from + i) % Math.min(6, bound.size());
                if (bound.get(at) == goal || goal == F && bound.get(at) == P || below(40) == 0) {
                    return node(Reference.VAR, at);
                }
            }
        }
        if (goal == N) {
            return node(Reference.NUM, below(2001) - 1000);
        }
        if (goal == T) {
            return node(Reference.TRU, below(2));
        }
        return node(Reference.FUN, 0, node(Reference.VAR, 0));
    }
}

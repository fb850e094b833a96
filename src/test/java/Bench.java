import java.util.HashMap;
import java.util.List;
import java.util.Map;

/** A desk with a short name for each making, and with looks at all that a call answers. */
final class Bench {
    static final int NUM = 0, TRU = 1, VAR = 2, FUN = 3, CALL = 4, SUM = 5, LESS = 6, IF = 7, LET = 8, MARK = 9;
    static final int TAKE = 10, FIX = 11, KINDS = 12;
    /** How many words of each kind are terms. */
    static final int[] TERM_WORDS = {0, 0, 0, 1, 2, 2, 2, 3, 2, 1, 1, 1};
    /** A word that no term can be, for words that a kind has not. */
    private static final int UNUSED = -7;

    final MarkDesk desk = new MarkDesk();
    private final Checks checks;
    /** A desk has room for few terms: what was made before is used again. */
    private final Map<List<Integer>, Integer> made = new HashMap<>();

    Bench(Checks checks) {
        this.checks = checks;
    }

    int make(int kind, int a, int b, int c) {
        List<Integer> words = List.of(kind, a, b, c);
        Integer before = made.get(words);
        if (before != null) {
            return before;
        }
        int term = desk.make(kind, a, b, c);
        made.put(words, term);
        return term;
    }

    int num(int a) {
        return make(NUM, a, UNUSED, UNUSED);
    }

    int yes() {
        return make(TRU, 1, UNUSED, UNUSED);
    }

    int no() {
        return make(TRU, 0, UNUSED, UNUSED);
    }

    int var(int a) {
        return make(VAR, a, UNUSED, UNUSED);
    }

    int fun(int body) {
        return make(FUN, body, UNUSED, UNUSED);
    }

    int call(int a, int b) {
        return make(CALL, a, b, UNUSED);
    }

    int sum(int a, int b) {
        return make(SUM, a, b, UNUSED);
    }

    int less(int a, int b) {
        return make(LESS, a, b, UNUSED);
    }

    int when(int a, int b, int c) {
        return make(IF, a, b, c);
    }

    int let(int a, int b) {
        return make(LET, a, b, UNUSED);
    }

    int mark(int a) {
        return make(MARK, a, UNUSED, UNUSED);
    }

    int take(int a) {
        return make(TAKE, a, UNUSED, UNUSED);
    }

    int fix(int a) {
        return make(FIX, a, UNUSED, UNUSED);
    }

    /** A call that never ends. */
    int endless() {
        int own = fun(call(var(0), var(0)));
        return call(own, own);
    }

    /** A low term of just that size: sums of ones, under a mark if the size is even. */
    int ofSize(int size) {
        if (size == 1) {
            return num(1);
        }
        if (size % 2 == 0) {
            return mark(ofSize(size - 1));
        }
        int half = (size - 1) / 2;
        int left = half % 2 == 0 ? half - 1 : half;
        return sum(ofSize(left), ofSize(size - 1 - left));
    }

    /** A term of height 9 that goes down by that word of that kind, as often as it can. */
    int tower(int kind, int place) {
        if (kind == LESS) {
            return place == 0 ? less(towerOver(num(5), SUM, 0, 7), num(1)) : less(num(1), towerOver(num(5), SUM, 1, 7));
        }
        if (kind == CALL) {
            return place == 0 ? towerOver(towerOver(num(5), FUN, 0, 4), CALL, 0, 4) : towerOver(num(5), CALL, 1, 7);
        }
        return towerOver(kind == IF && place == 0 ? yes() : num(5), kind, place, 8);
    }

    private int towerOver(int base, int kind, int place, int levels) {
        int top = base;
        for (int i = 0; i < levels; i++) {
            top = levelOver(top, kind, place);
        }
        return top;
    }

    private int levelOver(int top, int kind, int place) {
        switch (kind) {
            case CALL: return place == 0 ? call(top, num(5)) : call(fun(var(0)), top);
            case SUM: return place == 0 ? sum(top, num(1)) : sum(num(1), top);
            case LET: return place == 0 ? let(top, var(0)) : let(num(5), top);
            case IF:
                if (place == 0) {
                    return when(top, yes(), no());
                }
                return place == 1 ? when(yes(), top, num(5)) : when(no(), num(5), top);
            default: return make(kind, top, UNUSED, UNUSED);
        }
    }

    /** So many sums of ones: a value after 4 steps for each of them and 1 more. */
    int sums(int many) {
        return ofSize(2 * many + 1);
    }

    void dueWork(String what, int term, int form, int value, int steps) {
        checks.dueNoThrow(what + ": work", () -> checks.due(what + ": work", desk.work(term, 200), form));
        checks.due(what + ": value", desk.value(), value);
        checks.due(what + ": steps", desk.steps(), steps);
        checks.dueNoThrow(what + ": just enough fuel", () -> desk.work(term, steps));
        if (steps > 1) {
            checks.dueThrow(what + ": a step less", IllegalStateException.class, () -> desk.work(term, steps - 1));
        }
    }

    void dueNumber(String what, int term, int value, int steps) {
        dueWork(what, term, MarkDesk.NUMBER, value, steps);
    }

    void dueTruth(String what, int term, int value, int steps) {
        dueWork(what, term, MarkDesk.TRUTH, value, steps);
    }

    void dueFunction(String what, int term, int steps) {
        dueWork(what, term, MarkDesk.FUNCTION, 0, steps);
    }

    void dueStuck(String what, int term, int atStep) {
        checks.dueThrow(what + ": within " + atStep, IllegalArgumentException.class, () -> desk.work(term, atStep));
        checks.dueThrow(what + ": within all", IllegalArgumentException.class, () -> desk.work(term, 200));
        checks.dueThrow(what + ": not within fewer", IllegalStateException.class, () -> desk.work(term, atStep - 1));
    }

    void dueType(String what, int term, String want) {
        checks.dueNoThrow(what, () -> {
            int form = desk.type(term);
            checks.due(what + ": type and part(0)", Math.min(desk.part(0), MarkDesk.LETTER), form);
        });
        checks.dueText(what, typeText(), want);
    }

    void dueNoType(String what, int term) {
        checks.dueThrow(what, IllegalArgumentException.class, () -> desk.type(term));
    }

    /** The latest type as a text: N, T, letters a, b, .. and functions in brackets; read through part() alone. */
    String typeText() {
        return textAt(0, 1);
    }

    private String textAt(int path, int weight) {
        int form = desk.part(path);
        if (form == MarkDesk.NUMBER || form == MarkDesk.TRUTH) {
            return form == MarkDesk.NUMBER ? "N" : "T";
        }
        if (form >= MarkDesk.LETTER) {
            return String.valueOf((char) ('a' + form - MarkDesk.LETTER));
        }
        if (form == MarkDesk.NONE) {
            return "none";
        }
        StringBuilder text = new StringBuilder("(");
        for (int i = 1; i <= 4; i++) {
            text.append(i == 1 ? "" : " ").append(textAt(path + i * weight, weight * 10));
        }
        return text.append(")").toString();
    }
}

import java.util.NoSuchElementException;

/** What holds for all calls: a new object, the order of exceptions, what they leave alone, the counts, 512 calls. */
public final class CallsTest {
    private static final Checks CHECKS = new Checks();
    private static final int LEAST = Integer.MIN_VALUE, GREATEST = Integer.MAX_VALUE;
    private static final int MAX_CALLS = 512;

    private CallsTest() {
    }

    public static void main(String[] args) {
        newObject();
        objectsApart();
        orderInMake();
        orderInWork();
        orderInType();
        exceptionsChangeNothing();
        refusedMakingsChangeNothing();
        countOfTerms();
        countsOfEnds();
        refusalsAreNotCounted();
        otherCounts();
        looksChangeNothing();
        allCallsOfAnObject();
        fullDeskOfLongWorks();
        CHECKS.end("CallsTest");
    }

    private static void newObject() {
        CHECKS.sentence("Promise 1: A new object", "No terms, no value, no type.");
        MarkDesk desk = new MarkDesk();
        for (int what = 0; what <= 5; what++) {
            CHECKS.due("count " + what, desk.count(what), 0);
        }
        CHECKS.due("value", desk.value(), 0);
        CHECKS.due("steps", desk.steps(), 0);
        CHECKS.dueFloat("mean", desk.mean(), 0f);
        CHECKS.due("part 0", desk.part(0), MarkDesk.NONE);
        CHECKS.due("part 1", desk.part(1), MarkDesk.NONE);
        CHECKS.dueThrow("open", NoSuchElementException.class, () -> desk.open(0));
        CHECKS.dueThrow("work", NoSuchElementException.class, () -> desk.work(0, 1));
        CHECKS.dueThrow("type", NoSuchElementException.class, () -> desk.type(0));
        CHECKS.due("the first term", desk.make(Bench.NUM, 0, 0, 0), 0);
    }

    private static void objectsApart() {
        CHECKS.sentence("Promise 1: A new object", "No terms, no value, no type.");
        MarkDesk used = new MarkDesk();
        used.make(Bench.NUM, 9, 0, 0);
        used.work(0, 1);
        used.type(0);
        MarkDesk fresh = new MarkDesk();
        CHECKS.dueText("a new one beside a used one", stateOf(fresh) + countsOf(fresh),
                stateOf(new MarkDesk()) + countsOf(new MarkDesk()));
        fresh.make(Bench.TRU, 1, 0, 0);
        CHECKS.due("the used one stays", used.work(0, 1), MarkDesk.NUMBER);
        CHECKS.due("its value", used.value(), 9);
    }

    private static void orderInMake() {
        CHECKS.sentence("Terms", "EXCEPTIONS: a call ends by the first that holds, in the order named with it");
        MarkDesk desk = new MarkDesk();
        desk.make(Bench.NUM, 0, 0, 0);
        for (int i = 1; i < 9; i++) {
            desk.make(Bench.MARK, i - 1, 0, 0);
        }
        CHECKS.dueThrow("too high", IllegalStateException.class, () -> desk.make(Bench.SUM, 8, 0, 0));
        CHECKS.dueThrow("too high, a wrong word", IllegalArgumentException.class, () -> desk.make(Bench.SUM, 8, 9, 0));
        CHECKS.dueThrow("a wrong word first", IllegalArgumentException.class, () -> desk.make(Bench.SUM, -1, 8, 0));
        for (int i = 9; i < 60; i++) {
            desk.make(Bench.NUM, 0, 0, 0);
        }
        CHECKS.dueThrow("full", IllegalStateException.class, () -> desk.make(Bench.NUM, 1000, 0, 0));
        CHECKS.dueThrow("full, no kind", IllegalArgumentException.class, () -> desk.make(12, 0, 0, 0));
        CHECKS.dueThrow("full, no kind", IllegalArgumentException.class, () -> desk.make(-1, 0, 0, 0));
        CHECKS.dueThrow("full, no number", IllegalArgumentException.class, () -> desk.make(Bench.NUM, 1001, 0, 0));
        CHECKS.dueThrow("full, no truth", IllegalArgumentException.class, () -> desk.make(Bench.TRU, 2, 0, 0));
        CHECKS.dueThrow("full, no variable", IllegalArgumentException.class, () -> desk.make(Bench.VAR, 6, 0, 0));
        CHECKS.dueThrow("full, no term", IllegalArgumentException.class, () -> desk.make(Bench.MARK, 60, 0, 0));
        CHECKS.dueThrow("full, no third term", IllegalArgumentException.class, () -> desk.make(Bench.IF, 0, 0, 60));
    }

    private static void orderInWork() {
        CHECKS.sentence("Terms", "a call ends by the first that holds, in the order named with it");
        Bench b = new Bench(CHECKS);
        int free = b.var(0);
        int five = b.num(5);
        int stuck = b.when(five, five, five);
        for (int fuel : new int[] {0, 201, LEAST, GREATEST}) {
            CHECKS.dueThrow("no term, no fuel", NoSuchElementException.class, () -> b.desk.work(-1, fuel));
            CHECKS.dueThrow("no term, no fuel", NoSuchElementException.class, () -> b.desk.work(60, fuel));
            CHECKS.dueThrow("not closed, no fuel", NoSuchElementException.class, () -> b.desk.work(free, fuel));
            CHECKS.dueThrow("stuck, no fuel", IndexOutOfBoundsException.class, () -> b.desk.work(stuck, fuel));
        }
        CHECKS.dueThrow("stuck at the last step", IllegalArgumentException.class, () -> b.desk.work(stuck, 3));
        CHECKS.dueThrow("stuck a step later", IllegalStateException.class, () -> b.desk.work(stuck, 2));
    }

    private static void orderInType() {
        CHECKS.sentence("Terms", "the first that holds, in the order named with it");
        Bench b = new Bench(CHECKS);
        int wrong = b.sum(b.yes(), b.var(0));
        CHECKS.dueThrow("not closed, and no type", NoSuchElementException.class, () -> b.desk.type(wrong));
        int closed = b.let(b.num(5), wrong);
        CHECKS.dueThrow("closed, and no type", IllegalArgumentException.class, () -> b.desk.type(closed));
    }

    /** All that can be asked but for the counts of ends. */
    private static String stateOf(MarkDesk desk) {
        StringBuilder text = new StringBuilder();
        text.append(desk.count(0)).append(' ').append(desk.value()).append(' ').append(desk.steps()).append(' ');
        text.append(desk.mean());
        for (int path : new int[] {0, 1, 2, 3, 4, 11, 21, 31, 41, 5, -1}) {
            text.append(' ').append(desk.part(path));
        }
        return text.toString();
    }

    private static String countsOf(MarkDesk desk) {
        StringBuilder text = new StringBuilder();
        for (int what = 0; what <= 5; what++) {
            text.append(what == 0 ? "" : " ").append(desk.count(what));
        }
        return text.toString();
    }

    private static void dueUnchanged(MarkDesk desk, Class<? extends RuntimeException> want, String name,
            Checks.Call call) {
        String before = stateOf(desk);
        CHECKS.dueThrow(name, want, call);
        CHECKS.dueText(name + ": what it changes", stateOf(desk), before);
    }

    private static void exceptionsChangeNothing() {
        CHECKS.sentence("Terms", "it changes nothing then but what count() tells.");
        exceptionsOn(new Bench(CHECKS));
        Bench b = new Bench(CHECKS);
        b.desk.work(b.num(6), 5);
        b.desk.type(b.fun(b.fun(b.call(b.var(1), b.var(0)))));
        exceptionsOn(b);
        CHECKS.due("the value is the one found", b.desk.value(), 6);
        CHECKS.dueText("the type is the one found", b.typeText(), "((a b c d) e (a b c d) e)");
    }

    private static void exceptionsOn(Bench b) {
        MarkDesk desk = b.desk;
        int six = b.num(6);
        int free = b.var(0);
        int stuck = b.sum(six, b.fun(b.var(0)));
        int endless = b.endless();
        dueUnchanged(desk, NoSuchElementException.class, "open", () -> desk.open(60));
        dueUnchanged(desk, NoSuchElementException.class, "work, no term", () -> desk.work(60, 5));
        dueUnchanged(desk, NoSuchElementException.class, "work, not closed", () -> desk.work(free, 5));
        dueUnchanged(desk, IndexOutOfBoundsException.class, "work, fuel 0", () -> desk.work(six, 0));
        dueUnchanged(desk, IndexOutOfBoundsException.class, "work, fuel 201", () -> desk.work(six, 201));
        dueUnchanged(desk, IllegalArgumentException.class, "work, stuck", () -> desk.work(stuck, 50));
        dueUnchanged(desk, IllegalStateException.class, "work, more", () -> desk.work(endless, 200));
        dueUnchanged(desk, IllegalStateException.class, "work, a step more", () -> desk.work(stuck, 4));
        dueUnchanged(desk, NoSuchElementException.class, "type, no term", () -> desk.type(-1));
        dueUnchanged(desk, NoSuchElementException.class, "type, not closed", () -> desk.type(free));
        dueUnchanged(desk, IllegalArgumentException.class, "type, none", () -> desk.type(stuck));
        dueUnchanged(desk, IllegalArgumentException.class, "type, in itself", () -> desk.type(endless));
    }

    private static void refusedMakingsChangeNothing() {
        CHECKS.sentence("Terms", "it changes nothing then");
        Bench b = new Bench(CHECKS);
        MarkDesk desk = b.desk;
        int large = b.ofSize(120);
        int same = b.fun(b.var(0));
        desk.work(b.num(1), 5);
        desk.type(same);
        dueUnchanged(desk, IllegalArgumentException.class, "make, no kind", () -> desk.make(12, 0, 0, 0));
        dueUnchanged(desk, IllegalArgumentException.class, "make, a word", () -> desk.make(Bench.IF, 0, 0, 60));
        dueUnchanged(desk, IllegalStateException.class, "make, size", () -> desk.make(Bench.MARK, large, 0, 0));
        int next = desk.count(0);
        CHECKS.due("the next number", desk.make(Bench.NUM, 9, 0, 0), next);
        desk.work(next, 1);
        CHECKS.due("the next term is the one asked for", desk.value(), 9);
        while (desk.count(0) < 60) {
            desk.make(Bench.NUM, 7, 0, 0);
        }
        dueUnchanged(desk, IllegalStateException.class, "make, full", () -> desk.make(Bench.NUM, 8, 0, 0));
        desk.work(59, 1);
        CHECKS.due("the last term is as it was", desk.value(), 7);
    }

    private static void countOfTerms() {
        CHECKS.sentence("Promise 9: count", "How many terms there are (what = 0)");
        MarkDesk desk = new MarkDesk();
        for (int i = 0; i < 60; i++) {
            CHECKS.due("terms", desk.count(0), i);
            CHECKS.dueThrow("refused", IllegalArgumentException.class, () -> desk.make(Bench.TRU, 2, 0, 0));
            CHECKS.due("a refused one does not count", desk.count(0), i);
            desk.make(Bench.TRU, 1, 0, 0);
        }
        CHECKS.dueThrow("full", IllegalStateException.class, () -> desk.make(Bench.TRU, 1, 0, 0));
        CHECKS.due("full", desk.count(0), 60);
    }

    private static void countsOfEnds() {
        CHECKS.sentence("Promise 9: count", "how often a value was found (1), a term got stuck (2), needed more (3),"
                + " a type was found (4), none was (5) since the beginning.");
        Bench b = new Bench(CHECKS);
        int five = b.num(5);
        int stuck = b.call(five, five);
        CHECKS.dueText("at first", countsOf(b.desk), "2 0 0 0 0 0");
        b.desk.work(five, 1);
        CHECKS.dueText("a value", countsOf(b.desk), "2 1 0 0 0 0");
        b.desk.work(five, 1);
        CHECKS.dueText("the same value again", countsOf(b.desk), "2 2 0 0 0 0");
        CHECKS.dueThrow("stuck", IllegalArgumentException.class, () -> b.desk.work(stuck, 5));
        CHECKS.dueText("stuck", countsOf(b.desk), "2 2 1 0 0 0");
        CHECKS.dueThrow("more", IllegalStateException.class, () -> b.desk.work(stuck, 4));
        CHECKS.dueText("more", countsOf(b.desk), "2 2 1 1 0 0");
        CHECKS.dueThrow("more", IllegalStateException.class, () -> b.desk.work(stuck, 1));
        CHECKS.dueText("more again", countsOf(b.desk), "2 2 1 2 0 0");
        b.desk.type(five);
        CHECKS.dueText("a type", countsOf(b.desk), "2 2 1 2 1 0");
        CHECKS.dueThrow("no type", IllegalArgumentException.class, () -> b.desk.type(stuck));
        CHECKS.dueText("no type", countsOf(b.desk), "2 2 1 2 1 1");
        int own = b.fun(b.call(b.var(0), b.var(0)));
        CHECKS.dueThrow("a type in itself", IllegalArgumentException.class, () -> b.desk.type(own));
        CHECKS.dueText("a type in itself", countsOf(b.desk), "5 2 1 2 1 2");
        b.desk.work(own, 1);
        CHECKS.dueText("a function is a value", countsOf(b.desk), "5 3 1 2 1 2");
    }

    private static void refusalsAreNotCounted() {
        CHECKS.sentence("Promise 9: count",
                "a value was found (1), a term got stuck (2), needed more (3), a type was found (4), none was (5)");
        Bench b = new Bench(CHECKS);
        int free = b.var(0);
        int five = b.num(5);
        CHECKS.dueThrow("no term", NoSuchElementException.class, () -> b.desk.work(2, 5));
        CHECKS.dueThrow("not closed", NoSuchElementException.class, () -> b.desk.work(free, 5));
        CHECKS.dueThrow("fuel 0", IndexOutOfBoundsException.class, () -> b.desk.work(five, 0));
        CHECKS.dueThrow("fuel 201", IndexOutOfBoundsException.class, () -> b.desk.work(five, 201));
        CHECKS.dueThrow("no term", NoSuchElementException.class, () -> b.desk.type(2));
        CHECKS.dueThrow("not closed", NoSuchElementException.class, () -> b.desk.type(free));
        CHECKS.dueThrow("no term", NoSuchElementException.class, () -> b.desk.open(2));
        CHECKS.dueThrow("no kind", IllegalArgumentException.class, () -> b.desk.make(99, 0, 0, 0));
        CHECKS.dueText("none of these was worked out or typed", countsOf(b.desk), "2 0 0 0 0 0");
    }

    private static void otherCounts() {
        CHECKS.sentence("Promise 9: count", "NONE for another what.");
        Bench b = new Bench(CHECKS);
        for (int i = 0; i < 2; i++) {
            for (int what : new int[] {-1, 6, 7, -2, LEAST, GREATEST}) {
                CHECKS.due("count " + what, b.desk.count(what), MarkDesk.NONE);
            }
            b.desk.work(b.num(5), 1);
            b.desk.type(b.num(5));
        }
    }

    private static void looksChangeNothing() {
        CHECKS.sentence("Not promised", "Nothing is promised beyond the answers and state changes described above");
        Bench b = new Bench(CHECKS);
        b.desk.work(b.sum(b.num(2), b.num(3)), 50);
        b.desk.type(b.fun(b.var(0)));
        String before = stateOf(b.desk) + countsOf(b.desk);
        b.desk.open(0);
        CHECKS.dueText("looking", stateOf(b.desk) + countsOf(b.desk), before);
        b.desk.type(b.num(2));
        CHECKS.due("a type leaves the value", b.desk.value(), 5);
        b.desk.work(b.yes(), 50);
        CHECKS.due("a value leaves the type", b.desk.part(0), MarkDesk.NUMBER);
        b.desk.make(Bench.FUN, 0, 0, 0);
        CHECKS.due("a making leaves the value", b.desk.value(), 1);
        CHECKS.due("a making leaves the type", b.desk.part(0), MarkDesk.NUMBER);
    }

    /** Each of the calls as the 512th one, behind 511 others of all sorts. */
    private static void allCallsOfAnObject() {
        CHECKS.sentence("What it is", "An object is used for at most 512 calls after it has been made");
        for (int last = 0; last < 9; last++) {
            Bench b = new Bench(CHECKS);
            int long200 = b.when(b.yes(), b.sums(49), b.num(1));
            int same = b.fun(b.var(0));
            int stuck = b.call(b.num(1), b.num(1));
            int calls = b.desk.count(0) + 1;
            int values = 0;
            for (; calls + 6 < MAX_CALLS; calls += 6) {
                b.desk.work(long200, 200);
                b.desk.type(same);
                Checks.thrownBy(() -> b.desk.work(stuck, 200));
                Checks.thrownBy(() -> b.desk.work(long200, 199));
                Checks.thrownBy(() -> b.desk.type(stuck));
                Checks.thrownBy(() -> b.desk.make(99, 0, 0, 0));
                values++;
            }
            for (; calls + 1 < MAX_CALLS; calls++) {
                b.desk.steps();
            }
            lastCall(b, last, long200, same, values);
        }
    }

    private static void lastCall(Bench b, int which, int long200, int same, int values) {
        switch (which) {
            case 0: CHECKS.due("make", b.desk.make(Bench.MARK, 0, 0, 0) > same ? 1 : 0, 1); break;
            case 1: CHECKS.due("open", b.desk.open(same), 0); break;
            case 2: CHECKS.due("work", b.desk.work(long200, 200), MarkDesk.NUMBER); break;
            case 3: CHECKS.due("value", b.desk.value(), 50); break;
            case 4: CHECKS.due("steps", b.desk.steps(), 200); break;
            case 5: CHECKS.due("type", b.desk.type(same), MarkDesk.FUNCTION); break;
            case 6: CHECKS.due("part", b.desk.part(3), MarkDesk.LETTER); break;
            case 7: CHECKS.due("count", b.desk.count(5), values); break;
            default: CHECKS.dueFloat("mean", b.desk.mean(), 200f); break;
        }
    }

    private static void fullDeskOfLongWorks() {
        CHECKS.sentence("What it is", "at most 512 calls");
        MarkDesk desk = new MarkDesk();
        for (int i = 0; i < 60; i++) {
            CHECKS.due("term", desk.make(Bench.NUM, i, 0, 0), i);
        }
        int steps = 0;
        for (int i = 60; i < MAX_CALLS - 1; i++) {
            desk.work(i % 60, 1);
            steps++;
        }
        CHECKS.due("451 values behind 60 terms, as the 512th call", desk.count(1), steps);
    }
}

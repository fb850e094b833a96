import java.util.NoSuchElementException;

/** Each promise of the document by itself: ordinary inputs, the edges, and wrong inputs. */
public final class PromisesTest {
    private static final int NUM = 0, TRU = 1, VAR = 2, FUN = 3, CALL = 4, SUM = 5, LESS = 6, IF = 7, LET = 8;
    private static final int MARK = 9, TAKE = 10, FIX = 11;
    private static final Checks CHECKS = new Checks();

    private PromisesTest() {
    }

    public static void main(String[] args) {
        newObject();
        makeNumbersTerms();
        makeRefusesWords();
        makeRefusesWhatHasNoRoom();
        openCountsFreeVariables();
        workGivesEachKind();
        workCallsPieces();
        workRefuses();
        workGetsStuckOrNeedsMore();
        stepsAreCounted();
        typesOfEachKind();
        typesOfTakings();
        typesThatAreNone();
        partsOfDeepTypes();
        sharedTypesStaySmall();
        countsAndMean();
        failuresChangeNothing();
        CHECKS.end("PromisesTest");
    }

    private static int one(MarkDesk desk, int kind, int a) {
        return desk.make(kind, a, -7, -7);
    }

    private static int two(MarkDesk desk, int kind, int a, int b) {
        return desk.make(kind, a, b, -7);
    }

    private static void dueWork(String what, MarkDesk desk, int term, int form, int value, int steps) {
        CHECKS.due(what + ": work", desk.work(term, 200), form);
        CHECKS.due(what + ": value", desk.value(), value);
        CHECKS.due(what + ": steps", desk.steps(), steps);
        if (steps > 1) {
            CHECKS.dueThrow(what + ": a step less", IllegalStateException.class, () -> desk.work(term, steps - 1));
        }
        CHECKS.dueText(what + ": just enough", Checks.thrownBy(() -> desk.work(term, steps)), "nothing thrown");
    }

    /** The type as a text: N, T, letters a, b, .. and functions in brackets; read through part() alone. */
    private static String typeText(MarkDesk desk, int term) {
        int form = desk.type(term);
        CHECKS.due("type and part(0) of " + term, Math.min(desk.part(0), MarkDesk.LETTER), form);
        return textAt(desk, 0, 1);
    }

    private static String textAt(MarkDesk desk, int path, int weight) {
        int form = desk.part(path);
        if (form == MarkDesk.NUMBER || form == MarkDesk.TRUTH) {
            return form == MarkDesk.NUMBER ? "N" : "T";
        }
        if (form >= MarkDesk.LETTER) {
            return String.valueOf((char) ('a' + form - MarkDesk.LETTER));
        }
        if (form == MarkDesk.NONE) {
            return "none";
        }
        StringBuilder text = new StringBuilder("(");
        for (int i = 1; i <= 4; i++) {
            text.append(i == 1 ? "" : " ").append(textAt(desk, path + i * weight, weight * 10));
        }
        return text.append(")").toString();
    }

    private static void newObject() {
        MarkDesk desk = new MarkDesk();
        for (int what = 0; what <= 5; what++) {
            CHECKS.due("new: count " + what, desk.count(what), 0);
        }
        CHECKS.due("new: value", desk.value(), 0);
        CHECKS.due("new: steps", desk.steps(), 0);
        CHECKS.due("new: part 0", desk.part(0), MarkDesk.NONE);
        CHECKS.due("new: part 1", desk.part(1), MarkDesk.NONE);
        CHECKS.dueFloat("new: mean", desk.mean(), 0f);
        CHECKS.dueThrow("new: open", NoSuchElementException.class, () -> desk.open(0));
        CHECKS.dueThrow("new: work", NoSuchElementException.class, () -> desk.work(0, 1));
        CHECKS.dueThrow("new: type", NoSuchElementException.class, () -> desk.type(0));
    }

    private static void makeNumbersTerms() {
        MarkDesk desk = new MarkDesk();
        CHECKS.due("make: least number", one(desk, NUM, -1000), 0);
        CHECKS.due("make: greatest number", one(desk, NUM, 1000), 1);
        CHECKS.due("make: false", one(desk, TRU, 0), 2);
        CHECKS.due("make: true", one(desk, TRU, 1), 3);
        CHECKS.due("make: nearest variable", one(desk, VAR, 0), 4);
        CHECKS.due("make: farthest variable", one(desk, VAR, 5), 5);
        CHECKS.due("make: words that a kind has not", desk.make(FUN, 5, 99, -99), 6);
        CHECKS.due("make: if", desk.make(IF, 6, 5, 4), 7);
        CHECKS.due("make: count", desk.count(0), 8);
    }

    private static void makeRefusesWords() {
        MarkDesk desk = new MarkDesk();
        one(desk, NUM, 0);
        int[][] wrong = {
            {-1, 0, 0, 0}, {12, 0, 0, 0}, {Integer.MAX_VALUE, 0, 0, 0}, {Integer.MIN_VALUE, 0, 0, 0},
            {NUM, -1001, 0, 0}, {NUM, 1001, 0, 0}, {TRU, -1, 0, 0}, {TRU, 2, 0, 0}, {VAR, -1, 0, 0}, {VAR, 6, 0, 0},
            {FUN, 1, 0, 0}, {FUN, -1, 0, 0}, {MARK, 1, 0, 0}, {TAKE, 1, 0, 0}, {FIX, 1, 0, 0},
            {CALL, 1, 0, 0}, {CALL, 0, 1, 0}, {SUM, 0, -1, 0}, {LESS, 0, 1, 0}, {LET, 0, 1, 0}, {LET, 1, 0, 0},
            {IF, 1, 0, 0}, {IF, 0, 1, 0}, {IF, 0, 0, 1}, {IF, 0, 0, -1}};
        for (int[] w : wrong) {
            CHECKS.dueThrow("make " + java.util.Arrays.toString(w), IllegalArgumentException.class,
                    () -> desk.make(w[0], w[1], w[2], w[3]));
        }
        CHECKS.due("make: nothing was made", desk.count(0), 1);
        CHECKS.due("make: every kind with good words", desk.make(FIX, 0, 0, 0), 1);
    }

    private static void makeRefusesWhatHasNoRoom() {
        MarkDesk tall = new MarkDesk();
        one(tall, NUM, 0);
        for (int i = 0; i < 8; i++) {
            CHECKS.due("height " + (i + 2), one(tall, MARK, i), i + 1);
        }
        CHECKS.dueThrow("height 10", IllegalStateException.class, () -> one(tall, MARK, 8));
        CHECKS.dueThrow("height 10 by the third word", IllegalStateException.class, () -> tall.make(IF, 0, 0, 8));
        CHECKS.due("height 9 by the third word", tall.make(IF, 0, 0, 7), 9);

        MarkDesk large = new MarkDesk();
        one(large, NUM, 0);
        large.make(IF, 0, 0, 0);
        large.make(IF, 1, 1, 1);
        large.make(IF, 2, 2, 2);
        CHECKS.due("size 81", two(large, SUM, 3, 3 - 3), 4);
        large.make(IF, 3, 2, 2);
        CHECKS.due("size 67 and 52 make 120", two(large, SUM, 5, fiftyTwo(large)), large.count(0) - 1);
        int whole = large.count(0) - 1;
        CHECKS.dueThrow("size 121", IllegalStateException.class, () -> one(large, MARK, whole));

        MarkDesk full = new MarkDesk();
        for (int i = 0; i < 60; i++) {
            CHECKS.due("term " + i, one(full, NUM, i), i);
        }
        CHECKS.dueThrow("the 61st", IllegalStateException.class, () -> one(full, NUM, 0));
        CHECKS.dueThrow("the 61st with a wrong word", IllegalArgumentException.class, () -> one(full, MARK, 60));
        CHECKS.due("full: count", full.count(0), 60);
    }

    /** Beside terms of sizes 1, 4, 13 and 40 (numbers 0 to 3): 52 = 1 + 40 + 11, 11 = 1 + 4 + 6, 6 = 1 + 4 + 1. */
    private static int fiftyTwo(MarkDesk desk) {
        int six = two(desk, SUM, 1, 0);
        int eleven = two(desk, SUM, 1, six);
        return two(desk, SUM, 3, eleven);
    }

    private static void openCountsFreeVariables() {
        MarkDesk desk = new MarkDesk();
        int far = one(desk, VAR, 5);
        int near = one(desk, VAR, 0);
        int next = one(desk, VAR, 1);
        int number = one(desk, NUM, 5);
        CHECKS.due("open: a number", desk.open(number), 0);
        CHECKS.due("open: variable 5", desk.open(far), 6);
        CHECKS.due("open: variable 0", desk.open(near), 1);
        CHECKS.due("open: function", desk.open(one(desk, FUN, far)), 5);
        CHECKS.due("open: fix", desk.open(one(desk, FIX, far)), 4);
        CHECKS.due("open: take", desk.open(one(desk, TAKE, far)), 5);
        CHECKS.due("open: mark", desk.open(one(desk, MARK, far)), 6);
        CHECKS.due("open: let binds not in a", desk.open(two(desk, LET, near, number)), 1);
        CHECKS.due("open: let binds in b", desk.open(two(desk, LET, number, near)), 0);
        CHECKS.due("open: let of both", desk.open(two(desk, LET, near, far)), 5);
        CHECKS.due("open: fix binds two", desk.open(one(desk, FIX, next)), 0);
        CHECKS.due("open: function binds one", desk.open(one(desk, FUN, next)), 1);
        CHECKS.due("open: function of a closed body", desk.open(one(desk, FUN, number)), 0);
        CHECKS.due("open: call", desk.open(two(desk, CALL, next, near)), 2);
        CHECKS.due("open: less", desk.open(two(desk, LESS, near, next)), 2);
        CHECKS.due("open: if, first", desk.open(desk.make(IF, far, near, next)), 6);
        CHECKS.due("open: if, third", desk.open(desk.make(IF, number, near, next)), 2);
        CHECKS.dueThrow("open: -1", NoSuchElementException.class, () -> desk.open(-1));
        CHECKS.dueThrow("open: none so far", NoSuchElementException.class, () -> desk.open(desk.count(0)));
    }

    private static void workGivesEachKind() {
        MarkDesk desk = new MarkDesk();
        int seven = one(desk, NUM, 7);
        int minus = one(desk, NUM, -3);
        int yes = one(desk, TRU, 1);
        int no = one(desk, TRU, 0);
        int near = one(desk, VAR, 0);
        int next = one(desk, VAR, 1);
        dueWork("number", desk, minus, MarkDesk.NUMBER, -3, 1);
        dueWork("true", desk, yes, MarkDesk.TRUTH, 1, 1);
        dueWork("false", desk, no, MarkDesk.TRUTH, 0, 1);
        dueWork("function", desk, one(desk, FUN, near), MarkDesk.FUNCTION, 0, 1);
        dueWork("fix", desk, one(desk, FIX, near), MarkDesk.FUNCTION, 0, 1);
        dueWork("sum", desk, two(desk, SUM, seven, minus), MarkDesk.NUMBER, 4, 5);
        dueWork("less", desk, two(desk, LESS, minus, seven), MarkDesk.TRUTH, 1, 5);
        dueWork("not less", desk, two(desk, LESS, seven, seven), MarkDesk.TRUTH, 0, 5);
        dueWork("if true", desk, desk.make(IF, yes, seven, minus), MarkDesk.NUMBER, 7, 4);
        dueWork("if false", desk, desk.make(IF, no, seven, minus), MarkDesk.NUMBER, -3, 4);
        dueWork("let", desk, two(desk, LET, seven, near), MarkDesk.NUMBER, 7, 4);
        dueWork("mark", desk, one(desk, MARK, seven), MarkDesk.NUMBER, 7, 2);
        int constant = one(desk, FUN, one(desk, FUN, next));
        dueWork("function of a function", desk, two(desk, CALL, two(desk, CALL, constant, seven), minus),
                MarkDesk.NUMBER, 7, 11);
        int inner = two(desk, LET, minus, two(desk, SUM, near, next));
        dueWork("let in let", desk, two(desk, LET, seven, inner), MarkDesk.NUMBER, 4, 11);
        dueWork("fix gives itself", desk, two(desk, CALL, one(desk, FIX, next), seven), MarkDesk.FUNCTION, 0, 6);
        dueWork("fix gives its argument", desk, two(desk, CALL, one(desk, FIX, near), seven), MarkDesk.NUMBER, 7, 6);
        sumsWrap();
    }

    /** A piece that doubles six times is called four times: 1000 * 2^24 is beyond an int. */
    private static void sumsWrap() {
        MarkDesk desk = new MarkDesk();
        int near = one(desk, VAR, 0);
        int doubled = two(desk, SUM, near, near);
        int sixTimes = doubled;
        for (int i = 0; i < 5; i++) {
            sixTimes = two(desk, LET, doubled, sixTimes);
        }
        int calls = one(desk, NUM, 1000);
        for (int i = 0; i < 4; i++) {
            calls = two(desk, CALL, near, calls);
        }
        int whole = two(desk, LET, one(desk, TAKE, calls), sixTimes);
        dueWork("a sum that wraps", desk, whole, MarkDesk.NUMBER, (int) (1000L << 24), 183);
    }

    private static void workCallsPieces() {
        MarkDesk desk = new MarkDesk();
        int ten = one(desk, NUM, 10);
        int three = one(desk, NUM, 3);
        int near = one(desk, VAR, 0);
        int dropped = one(desk, TAKE, ten);
        dueWork("never called", desk, two(desk, SUM, three, dropped), MarkDesk.NUMBER, 10, 5);
        dueWork("only up to the mark", desk, two(desk, SUM, three, one(desk, MARK, two(desk, SUM, three, dropped))),
                MarkDesk.NUMBER, 13, 10);
        int often = one(desk, TAKE, two(desk, CALL, near, two(desk, CALL, near, ten)));
        dueWork("called twice", desk, one(desk, MARK, two(desk, SUM, three, often)), MarkDesk.NUMBER, 16, 16);
        int given = one(desk, MARK, two(desk, SUM, three, one(desk, TAKE, near)));
        dueWork("given away", desk, given, MarkDesk.FUNCTION, 0, 6);
        dueWork("called later", desk, two(desk, CALL, given, ten), MarkDesk.NUMBER, 13, 11);
        int first = one(desk, TAKE, two(desk, SUM, two(desk, CALL, near, ten), one(desk, NUM, 100)));
        dueWork("behind the call", desk, two(desk, SUM, first, three), MarkDesk.NUMBER, 113, 14);
        int emptyPiece = one(desk, TAKE, two(desk, CALL, near, ten));
        dueWork("an empty piece", desk, emptyPiece, MarkDesk.NUMBER, 10, 6);
        // The second taking's piece is empty: the first has taken all, and its body stands in the same mark.
        int second = one(desk, TAKE, one(desk, TAKE, ten));
        dueWork("take in take", desk, two(desk, SUM, three, second), MarkDesk.NUMBER, 10, 6);
        // In a called piece a taking reaches no further than the call: 1 + (the inner 10).
        int bothSides = two(desk, SUM, one(desk, TAKE, two(desk, SUM, two(desk, CALL, near, three), three)), dropped);
        dueWork("a piece has its own mark", desk, bothSides, MarkDesk.NUMBER, 13, 14);
        int overFalse = desk.make(IF, one(desk, TAKE, two(desk, CALL, near, one(desk, TRU, 0))), ten, three);
        dueWork("a piece over if", desk, overFalse, MarkDesk.NUMBER, 3, 9);
        int overLet = two(desk, LET, often, two(desk, SUM, near, near));
        dueWork("a piece over let", desk, overLet, MarkDesk.NUMBER, 40, 23);
        int overCall = two(desk, CALL, one(desk, TAKE, two(desk, CALL, near, one(desk, FUN, near))), three);
        dueWork("a piece over call", desk, overCall, MarkDesk.NUMBER, 3, 11);
    }

    private static void workRefuses() {
        MarkDesk desk = new MarkDesk();
        int number = one(desk, NUM, 1);
        int free = one(desk, VAR, 0);
        CHECKS.dueThrow("work: no such term", NoSuchElementException.class, () -> desk.work(2, 10));
        CHECKS.dueThrow("work: below 0", NoSuchElementException.class, () -> desk.work(-1, 10));
        CHECKS.dueThrow("work: not closed", NoSuchElementException.class, () -> desk.work(free, 10));
        CHECKS.dueThrow("work: not closed first", NoSuchElementException.class, () -> desk.work(free, 0));
        CHECKS.dueThrow("work: fuel 0", IndexOutOfBoundsException.class, () -> desk.work(number, 0));
        CHECKS.dueThrow("work: fuel below 0", IndexOutOfBoundsException.class,
                () -> desk.work(number, Integer.MIN_VALUE));
        CHECKS.dueThrow("work: fuel 201", IndexOutOfBoundsException.class, () -> desk.work(number, 201));
        CHECKS.due("work: fuel 200", desk.work(number, 200), MarkDesk.NUMBER);
        CHECKS.due("work: fuel 1", desk.work(number, 1), MarkDesk.NUMBER);
        CHECKS.due("work: refusals are not counted", desk.count(2) + desk.count(3), 0);
    }

    private static void dueStuck(String what, MarkDesk desk, int term, int at) {
        CHECKS.dueThrow(what + ": within " + at, IllegalArgumentException.class, () -> desk.work(term, at));
        CHECKS.dueThrow(what + ": within all", IllegalArgumentException.class, () -> desk.work(term, 200));
        CHECKS.dueThrow(what + ": not within fewer", IllegalStateException.class, () -> desk.work(term, at - 1));
    }

    private static void workGetsStuckOrNeedsMore() {
        MarkDesk desk = new MarkDesk();
        int five = one(desk, NUM, 5);
        int yes = one(desk, TRU, 1);
        int near = one(desk, VAR, 0);
        int same = one(desk, FUN, near);
        int fallen = one(desk, TAKE, five);
        dueStuck("call of a number", desk, two(desk, CALL, five, yes), 5);
        dueStuck("call of a truth", desk, two(desk, CALL, yes, five), 5);
        dueStuck("sum, left", desk, two(desk, SUM, yes, five), 5);
        dueStuck("sum, right", desk, two(desk, SUM, five, same), 5);
        dueStuck("less, left", desk, two(desk, LESS, same, five), 5);
        dueStuck("less, right", desk, two(desk, LESS, five, yes), 5);
        dueStuck("if of a number", desk, desk.make(IF, five, yes, yes), 3);
        dueStuck("if of a function", desk, desk.make(IF, same, yes, yes), 3);
        dueStuck("a piece is no number", desk, one(desk, TAKE, two(desk, SUM, near, near)), 6);
        // What is looked at only with both there is never looked at if the second takes it away.
        dueWork("sum never looked at", desk, two(desk, SUM, yes, fallen), MarkDesk.NUMBER, 5, 5);
        dueWork("call never looked at", desk, two(desk, CALL, yes, fallen), MarkDesk.NUMBER, 5, 5);
        int own = one(desk, FUN, two(desk, CALL, near, near));
        int endless = two(desk, CALL, own, own);
        CHECKS.dueThrow("endless", IllegalStateException.class, () -> desk.work(endless, 200));
        int again = one(desk, FUN, one(desk, MARK, two(desk, CALL, near, near)));
        int marksWithoutEnd = two(desk, CALL, again, again);
        CHECKS.dueThrow("marks without end", IllegalStateException.class, () -> desk.work(marksWithoutEnd, 200));
        int loop = two(desk, CALL, one(desk, FIX, two(desk, CALL, one(desk, VAR, 1), near)), five);
        CHECKS.dueThrow("fix without end", IllegalStateException.class, () -> desk.work(loop, 200));
        int takings = one(desk, FUN, one(desk, TAKE, two(desk, CALL, near, two(desk, CALL, near, five))));
        int pieces = two(desk, CALL, takings, five);
        CHECKS.due("an empty piece twice", desk.work(pieces, 200), MarkDesk.NUMBER);
    }

    private static void stepsAreCounted() {
        MarkDesk desk = new MarkDesk();
        int five = one(desk, NUM, 5);
        int mark = one(desk, MARK, five);
        int stuck = two(desk, CALL, five, five);
        CHECKS.dueThrow("steps: stuck first", IllegalArgumentException.class, () -> desk.work(stuck, 9));
        CHECKS.due("steps: none before the first value", desk.steps(), 0);
        desk.work(mark, 9);
        CHECKS.due("steps: a mark does not wait", desk.steps(), 2);
        CHECKS.dueThrow("steps: stuck", IllegalArgumentException.class, () -> desk.work(stuck, 9));
        CHECKS.dueThrow("steps: needs more", IllegalStateException.class, () -> desk.work(mark, 1));
        CHECKS.due("steps: of the latest value", desk.steps(), 2);
        desk.work(five, 9);
        CHECKS.due("steps: anew", desk.steps(), 1);
    }

    private static void typesOfEachKind() {
        MarkDesk desk = new MarkDesk();
        int five = one(desk, NUM, 5);
        int yes = one(desk, TRU, 1);
        int near = one(desk, VAR, 0);
        int next = one(desk, VAR, 1);
        int same = one(desk, FUN, near);
        CHECKS.dueText("number", typeText(desk, five), "N");
        CHECKS.dueText("truth", typeText(desk, yes), "T");
        CHECKS.dueText("same", typeText(desk, same), "(a b a b)");
        CHECKS.dueText("first of two", typeText(desk, one(desk, FUN, one(desk, FUN, next))), "(a b (c d a d) b)");
        CHECKS.dueText("sum", typeText(desk, one(desk, FUN, two(desk, SUM, near, five))), "(N a N a)");
        CHECKS.dueText("less", typeText(desk, one(desk, FUN, two(desk, LESS, five, near))), "(N a T a)");
        CHECKS.dueText("if", typeText(desk, one(desk, FUN, desk.make(IF, near, same, same))), "(T a (b c b c) a)");
        CHECKS.dueText("let", typeText(desk, two(desk, LET, yes, near)), "T");
        CHECKS.dueText("let binds one type", typeText(desk, two(desk, LET, same, near)), "(a b a b)");
        CHECKS.dueText("call", typeText(desk, two(desk, CALL, same, yes)), "T");
        CHECKS.dueText("apply", typeText(desk, one(desk, FUN, one(desk, FUN, two(desk, CALL, next, near)))),
                "((a b c d) e (a b c d) e)");
        int loop = one(desk, FIX, two(desk, CALL, next, near));
        CHECKS.dueText("fix", typeText(desk, loop), "(a b c d)");
        CHECKS.dueText("a letter", typeText(desk, two(desk, CALL, loop, five)), "a");
        CHECKS.due("a letter's form", desk.type(two(desk, CALL, loop, yes)), MarkDesk.LETTER);
        CHECKS.dueText("mark", typeText(desk, one(desk, FUN, one(desk, MARK, near))), "(a b a b)");
    }

    private static void typesOfTakings() {
        MarkDesk desk = new MarkDesk();
        int five = one(desk, NUM, 5);
        int yes = one(desk, TRU, 1);
        int near = one(desk, VAR, 0);
        int fallen = one(desk, TAKE, yes);
        CHECKS.dueText("the taking's type is the whole's", typeText(desk, two(desk, SUM, five, fallen)), "T");
        CHECKS.dueText("the mark is a truth", typeText(desk, one(desk, MARK, two(desk, SUM, five, fallen))), "T");
        CHECKS.dueText("in a function", typeText(desk, one(desk, FUN, fallen)), "(a b c T)");
        CHECKS.dueText("order of calls", typeText(desk, one(desk, FUN, two(desk, SUM, fallen, near))), "(N a N T)");
        CHECKS.dueText("the piece", typeText(desk, one(desk, FUN, one(desk, TAKE, near))), "(a b c (c d b d))");
        int given = one(desk, MARK, two(desk, LESS, five, one(desk, TAKE, near)));
        CHECKS.dueText("a piece given away", typeText(desk, given), "(N a T a)");
        // Each use of a piece has a letter of its own: here a mark around gives a number, there a truth.
        int called = two(desk, CALL, near, five);
        int uses = two(desk, LESS, one(desk, MARK, two(desk, SUM, called, five)), called);
        int anew = two(desk, SUM, five, one(desk, TAKE, uses));
        CHECKS.dueText("each use anew", typeText(desk, anew), "T");
        // What LET binds has one type only, also if a piece is bound.
        dueNone("a piece by let", desk, two(desk, SUM, five, one(desk, TAKE, two(desk, LET, near, uses))));
        int apply = one(desk, FUN, two(desk, CALL, near, five));
        CHECKS.dueText("a call's answers", typeText(desk, apply), "((N a b c) a b c)");
    }

    private static void dueNone(String what, MarkDesk desk, int term) {
        int before = desk.count(5);
        CHECKS.dueThrow(what, IllegalArgumentException.class, () -> desk.type(term));
        CHECKS.due(what + ": counted", desk.count(5), before + 1);
    }

    private static void typesThatAreNone() {
        MarkDesk desk = new MarkDesk();
        int five = one(desk, NUM, 5);
        int yes = one(desk, TRU, 1);
        int near = one(desk, VAR, 0);
        int next = one(desk, VAR, 1);
        int same = one(desk, FUN, near);
        int own = one(desk, FUN, two(desk, CALL, near, near));
        dueNone("sum with a truth", desk, two(desk, SUM, five, yes));
        dueNone("less with a truth", desk, two(desk, LESS, yes, five));
        dueNone("call of a number", desk, two(desk, CALL, five, five));
        dueNone("if of a number", desk, desk.make(IF, five, five, five));
        dueNone("if of two types", desk, desk.make(IF, yes, five, yes));
        dueNone("contains itself", desk, own);
        dueNone("contains itself, beside", desk, two(desk, LET, own, five));
        dueNone("fix gives itself", desk, one(desk, FIX, next));
        dueNone("let has one type", desk,
                two(desk, LET, same, two(desk, LET, two(desk, CALL, near, yes), two(desk, CALL, next, five))));
        dueNone("the mark gives a truth", desk,
                two(desk, SUM, five, one(desk, MARK, two(desk, SUM, five, one(desk, TAKE, yes)))));
        dueNone("the piece takes a number", desk,
                two(desk, SUM, five, one(desk, TAKE, two(desk, CALL, near, yes))));
        CHECKS.due("none was found", desk.part(0), MarkDesk.NONE);
        CHECKS.dueThrow("type: not closed", NoSuchElementException.class, () -> desk.type(near));
        CHECKS.dueThrow("type: no such term", NoSuchElementException.class, () -> desk.type(desk.count(0)));
        CHECKS.dueThrow("type: below 0", NoSuchElementException.class, () -> desk.type(-1));
    }

    private static void partsOfDeepTypes() {
        MarkDesk desk = new MarkDesk();
        int near = one(desk, VAR, 0);
        int next = one(desk, VAR, 1);
        int apply = one(desk, FUN, one(desk, FUN, two(desk, CALL, next, near)));
        desk.type(apply);
        // ((a b c d) e (a b c d) e): the last digit goes in first.
        CHECKS.due("part 41: part 1, its part 4", desk.part(41), MarkDesk.LETTER + 3);
        CHECKS.due("part 14: part 4, its part 1", desk.part(14), MarkDesk.NONE);
        CHECKS.due("part 3", desk.part(3), MarkDesk.FUNCTION);
        CHECKS.due("part 23", desk.part(23), MarkDesk.LETTER + 1);
        CHECKS.due("part 4", desk.part(4), MarkDesk.LETTER + 4);
        CHECKS.due("part 10: a 0 behind", desk.part(10), MarkDesk.NONE);
        CHECKS.due("part 101: a 0 between", desk.part(101), MarkDesk.NONE);
        CHECKS.due("part 5", desk.part(5), MarkDesk.NONE);
        CHECKS.due("part 51", desk.part(51), MarkDesk.NONE);
        CHECKS.due("part 15", desk.part(15), MarkDesk.NONE);
        CHECKS.due("part 411: no part of a letter", desk.part(411), MarkDesk.NONE);
        CHECKS.due("part -1", desk.part(-1), MarkDesk.NONE);
        CHECKS.due("part least", desk.part(Integer.MIN_VALUE), MarkDesk.NONE);
        CHECKS.due("part greatest", desk.part(Integer.MAX_VALUE), MarkDesk.NONE);
        int tower = one(desk, NUM, 5);
        int path = 0;
        for (int i = 0; i < 8; i++) {
            tower = one(desk, FUN, tower);
            path = path * 10 + 3;
        }
        desk.type(tower);
        CHECKS.due("eight functions deep", desk.part(path), MarkDesk.NUMBER);
        CHECKS.due("seven deep", desk.part(path / 10), MarkDesk.FUNCTION);
        CHECKS.due("nine deep", desk.part(path * 10 + 3), MarkDesk.NONE);
        for (int digit = 5; digit <= 9; digit++) {
            for (int weight = 1, inner = 0; weight <= 1000000; weight *= 10) {
                CHECKS.due("wrong digit last", desk.part(digit * weight + inner), MarkDesk.NONE);
                inner = inner * 10 + 3;
            }
            CHECKS.due("wrong digit first", desk.part(30 + digit), MarkDesk.NONE);
        }
        for (int weight = 10; weight <= 100000; weight *= 10) {
            CHECKS.due("a 0 between", desk.part(3333333 - 3 * weight), MarkDesk.NONE);
        }
        CHECKS.due("a 0 first", desk.part(30), MarkDesk.NONE);
        CHECKS.due("first letter", desk.part(1), MarkDesk.LETTER);
        CHECKS.due("last letter", desk.part(4), MarkDesk.LETTER + 1);
        CHECKS.due("third letter", desk.part(13), MarkDesk.LETTER + 2);
    }

    /** A type whose text doubles with each LET: it must be found and gone through without writing it out. */
    private static void sharedTypesStaySmall() {
        MarkDesk desk = new MarkDesk();
        int near = one(desk, VAR, 0);
        int pair = one(desk, FUN, two(desk, CALL, two(desk, CALL, near, one(desk, VAR, 1)), one(desk, VAR, 1)));
        int body = pair;
        for (int i = 0; i < 4; i++) {
            body = two(desk, LET, pair, body);
        }
        int whole = two(desk, LET, one(desk, NUM, 1), body);
        CHECKS.due("doubling", desk.type(whole), MarkDesk.FUNCTION);
        CHECKS.due("doubling: takes a function", desk.part(1), MarkDesk.FUNCTION);
        CHECKS.due("doubling: that takes a pair", desk.part(11), MarkDesk.FUNCTION);
    }

    private static void countsAndMean() {
        MarkDesk desk = new MarkDesk();
        int five = one(desk, NUM, 5);
        int sum = two(desk, SUM, five, five);
        int stuck = two(desk, CALL, five, five);
        desk.work(five, 1);
        CHECKS.dueFloat("mean of 1", desk.mean(), 1f);
        desk.work(sum, 9);
        CHECKS.dueFloat("mean of 1, 5", desk.mean(), 3f);
        desk.work(five, 200);
        CHECKS.dueFloat("mean of 1, 5, 1", desk.mean(), 7f / 3f);
        CHECKS.dueThrow("count: stuck", IllegalArgumentException.class, () -> desk.work(stuck, 9));
        CHECKS.dueThrow("count: stuck", IllegalArgumentException.class, () -> desk.work(stuck, 5));
        CHECKS.dueThrow("count: more", IllegalStateException.class, () -> desk.work(stuck, 4));
        CHECKS.dueFloat("mean as before", desk.mean(), 7f / 3f);
        desk.type(sum);
        desk.type(five);
        CHECKS.dueThrow("count: no type", IllegalArgumentException.class, () -> desk.type(stuck));
        CHECKS.dueThrow("count: no term", NoSuchElementException.class, () -> desk.type(9));
        CHECKS.dueThrow("count: no term", NoSuchElementException.class, () -> desk.work(9, 9));
        CHECKS.dueThrow("count: no make", IllegalArgumentException.class, () -> desk.make(99, 0, 0, 0));
        int[] due = {3, 3, 2, 1, 2, 1};
        for (int what = 0; what < due.length; what++) {
            CHECKS.due("count " + what, desk.count(what), due[what]);
        }
        CHECKS.due("count -1", desk.count(-1), MarkDesk.NONE);
        CHECKS.due("count 6", desk.count(6), MarkDesk.NONE);
    }

    private static void failuresChangeNothing() {
        MarkDesk desk = new MarkDesk();
        int near = one(desk, VAR, 0);
        int same = one(desk, FUN, near);
        int own = one(desk, FUN, two(desk, CALL, near, near));
        int six = one(desk, NUM, 6);
        int stuck = two(desk, SUM, six, same);
        desk.work(six, 5);
        CHECKS.dueText("before", typeText(desk, same), "(a b a b)");
        CHECKS.dueThrow("no type", IllegalArgumentException.class, () -> desk.type(own));
        CHECKS.dueThrow("no type", IllegalArgumentException.class, () -> desk.type(stuck));
        CHECKS.dueThrow("not closed", NoSuchElementException.class, () -> desk.type(near));
        CHECKS.dueThrow("stuck", IllegalArgumentException.class, () -> desk.work(stuck, 50));
        CHECKS.dueThrow("more", IllegalStateException.class, () -> desk.work(two(desk, CALL, own, own), 200));
        CHECKS.dueThrow("fuel", IndexOutOfBoundsException.class, () -> desk.work(same, 0));
        CHECKS.dueText("the latest type stays", textAt(desk, 0, 1), "(a b a b)");
        CHECKS.due("the latest value stays", desk.value(), 6);
        CHECKS.due("the latest steps stay", desk.steps(), 1);
        desk.work(same, 5);
        CHECKS.due("a function's value is 0", desk.value(), 0);
    }
}

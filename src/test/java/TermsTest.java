import java.util.Arrays;
import java.util.NoSuchElementException;

/** The making of terms: kinds, words, height, size, what is closed, and promises 2 and 3. */
public final class TermsTest {
    private static final Checks CHECKS = new Checks();
    private static final int LEAST = Integer.MIN_VALUE, GREATEST = Integer.MAX_VALUE;

    private TermsTest() {
    }

    public static void main(String[] args) {
        termsAreNumbered();
        aFullDeskMakesNoMore();
        wordsWereMadeBefore();
        heightWithoutWords();
        heightOverEachWord();
        heightIsOfTheGreatest();
        sizeOverEachWord();
        sizeCountsATermTwice();
        otherWordsAreNotLookedAt();
        otherWordsDoNotCount();
        numbers();
        truths();
        variables();
        closedTerms();
        makeAnswersTheNumber();
        makeRefusesKinds();
        makeRefusesWords();
        makeRefusesWhatHasNoRoom();
        openCountsFreeVariables();
        openOfClosedTerms();
        openRefuses();
        CHECKS.end("TermsTest");
    }

    private static void dueRefused(String what, Class<? extends RuntimeException> want, Bench bench, int... words) {
        int before = bench.desk.count(0);
        CHECKS.dueThrow(what + ": make" + Arrays.toString(words), want,
                () -> bench.desk.make(words[0], words[1], words[2], words[3]));
        CHECKS.due(what + ": nothing is made", bench.desk.count(0), before);
    }

    private static void dueMade(String what, Bench bench, int... words) {
        int next = bench.desk.count(0);
        CHECKS.dueNoThrow(what + ": make" + Arrays.toString(words), () -> CHECKS.due(what + ": its number",
                bench.desk.make(words[0], words[1], words[2], words[3]), next));
    }

    /** A making of that kind with the same term at each word but one. */
    private static int[] words(int kind, int most, int place, int other) {
        int[] words = {kind, most, most, most};
        words[1 + place] = other;
        return words;
    }

    /** Marks one over the other: term n has the height n + 1. */
    private static Bench tower(int leafKind, int height) {
        Bench bench = new Bench(CHECKS);
        bench.desk.make(leafKind, 0, 0, 0);
        for (int i = 1; i < height; i++) {
            dueMade("height " + (i + 1), bench, Bench.MARK, i - 1, 0, 0);
        }
        return bench;
    }

    private static void termsAreNumbered() {
        CHECKS.sentence("Terms", "TERMS have numbers 0, 1, .. in the order of their making");
        MarkDesk desk = new MarkDesk();
        CHECKS.due("the first", desk.make(Bench.NUM, 7, 0, 0), 0);
        CHECKS.due("the same once more is another", desk.make(Bench.NUM, 7, 0, 0), 1);
        CHECKS.dueThrow("a refused one", IllegalArgumentException.class, () -> desk.make(Bench.NUM, 1001, 0, 0));
        CHECKS.due("a refused one takes no number", desk.make(Bench.TRU, 1, 0, 0), 2);
        CHECKS.due("another object begins anew", new MarkDesk().make(Bench.NUM, 7, 0, 0), 0);
    }

    private static void aFullDeskMakesNoMore() {
        CHECKS.sentence("Terms", "at most 60, each of a KIND");
        for (int kind = 0; kind < Bench.KINDS; kind++) {
            Bench full = new Bench(CHECKS);
            for (int i = 0; i < 59; i++) {
                CHECKS.due("term " + i, full.desk.make(Bench.NUM, i, 0, 0), i);
            }
            dueMade("the 60th", full, kind, 0, 0, 0);
            dueRefused("the 61st", IllegalStateException.class, full, kind, 0, 0, 0);
            dueRefused("once more", IllegalStateException.class, full, kind, 0, 0, 0);
            CHECKS.due("all are kept", full.desk.count(0), 60);
            CHECKS.due("the last but one is as it was", full.desk.work(58, 1), MarkDesk.NUMBER);
            CHECKS.due("its value", full.desk.value(), 58);
        }
    }

    private static void wordsWereMadeBefore() {
        CHECKS.sentence("Terms", "where a word is a term, that was made before");
        for (int kind = Bench.FUN; kind < Bench.KINDS; kind++) {
            for (int place = 0; place < Bench.TERM_WORDS[kind]; place++) {
                Bench bench = new Bench(CHECKS);
                bench.num(0);
                bench.num(1);
                for (int wrong : new int[] {-1, LEAST, GREATEST, 2, 3, 59, 60}) {
                    dueRefused("not made before", IllegalArgumentException.class, bench, words(kind, 0, place, wrong));
                }
                dueMade("the one made last", bench, words(kind, 0, place, 1));
                dueMade("the first one", bench, words(kind, 1, place, 0));
                Bench empty = new Bench(CHECKS);
                dueRefused("itself", IllegalArgumentException.class, empty, words(kind, 0, place, 0));
            }
        }
    }

    private static void heightWithoutWords() {
        CHECKS.sentence("Terms", "(1 without), at most 9");
        for (int leaf : new int[] {Bench.NUM, Bench.TRU, Bench.VAR}) {
            Bench bench = tower(leaf, 9);
            dueRefused("height 10", IllegalStateException.class, bench, Bench.MARK, 8, 0, 0);
        }
    }

    private static void heightOverEachWord() {
        CHECKS.sentence("Terms", "A term's HEIGHT is 1 more than the greatest of those that are its words");
        for (int kind = Bench.FUN; kind < Bench.KINDS; kind++) {
            for (int place = 0; place < Bench.TERM_WORDS[kind]; place++) {
                Bench bench = tower(Bench.NUM, 9);
                dueMade("height 9", bench, words(kind, 0, place, 7));
                dueRefused("height 10", IllegalStateException.class, bench, words(kind, 0, place, 8));
                dueRefused("above it", IllegalStateException.class, bench, Bench.MARK, 9, 0, 0);
            }
        }
    }

    private static void heightIsOfTheGreatest() {
        CHECKS.sentence("Terms", "HEIGHT is 1 more than the greatest");
        Bench bench = tower(Bench.NUM, 8);
        dueMade("not of the sum: two of height 8", bench, Bench.SUM, 7, 7, 0);
        dueMade("not of the sum: three of height 8", bench, Bench.IF, 7, 7, 7);
        dueMade("not of the latest: two of height 1", bench, Bench.SUM, 0, 0, 0);
        dueMade("above that", bench, Bench.MARK, 10, 0, 0);
    }

    private static void sizeOverEachWord() {
        CHECKS.sentence("Terms", "its SIZE 1 more than the sum of theirs");
        for (int kind = Bench.FUN; kind < Bench.KINDS; kind++) {
            int many = Bench.TERM_WORDS[kind];
            for (int place = 0; place < many; place++) {
                Bench bench = new Bench(CHECKS);
                int larger = bench.ofSize(120 / many);
                int smaller = bench.ofSize(120 / many - 1);
                dueRefused("size 121", IllegalStateException.class, bench, words(kind, larger, place, larger));
                dueMade("size 120", bench, words(kind, larger, place, smaller));
                int whole = bench.desk.count(0) - 1;
                dueRefused("above it", IllegalStateException.class, bench, Bench.MARK, whole, 0, 0);
            }
        }
    }

    private static void sizeCountsATermTwice() {
        CHECKS.sentence("Terms", "(a term that is two words counts twice), at most 120");
        Bench bench = new Bench(CHECKS);
        int fiftyNine = bench.ofSize(59);
        int sixty = bench.ofSize(60);
        for (int kind : new int[] {Bench.CALL, Bench.SUM, Bench.LESS, Bench.LET}) {
            dueRefused("60 twice", IllegalStateException.class, bench, kind, sixty, sixty, 0);
            dueMade("59 twice", bench, kind, fiftyNine, fiftyNine, 0);
        }
        int twice = bench.desk.count(0) - 1;
        dueMade("120", bench, Bench.MARK, twice, 0, 0);
        dueRefused("121", IllegalStateException.class, bench, Bench.MARK, twice + 1, 0, 0);
        Bench thrice = new Bench(CHECKS);
        int thirtyNine = thrice.ofSize(39);
        int forty = thrice.ofSize(40);
        dueRefused("40 three times", IllegalStateException.class, thrice, Bench.IF, forty, forty, forty);
        int whole = thrice.when(thirtyNine, thirtyNine, thirtyNine);
        int one = thrice.num(1);
        dueMade("39 three times, and 1 more", thrice, Bench.SUM, whole, one, 0);
        dueRefused("121", IllegalStateException.class, thrice, Bench.MARK, thrice.desk.count(0) - 1, 0, 0);
        dueRefused("39 three times, and 2 more", IllegalStateException.class, thrice,
                Bench.SUM, whole, thrice.mark(one), 0);
    }

    private static void otherWordsAreNotLookedAt() {
        CHECKS.sentence("Terms", "Words that a kind has not are not looked at.");
        for (int other : new int[] {-1, 0, 1, 2, 59, 60, 1001, LEAST, GREATEST}) {
            Bench bench = new Bench(CHECKS);
            bench.num(0);
            for (int kind = 0; kind < Bench.KINDS; kind++) {
                int[] words = {kind, 0, other, other};
                for (int i = 0; i < Bench.TERM_WORDS[kind]; i++) {
                    words[1 + i] = 0;
                }
                dueMade("other words", bench, words);
            }
        }
    }

    /** Words that a kind has not may be numbers of terms: they are no words for all that. */
    private static void otherWordsDoNotCount() {
        CHECKS.sentence("Terms", "Words that a kind has not are not looked at.");
        for (int kind = 0; kind < Bench.KINDS; kind++) {
            if (Bench.TERM_WORDS[kind] == 3 || kind == Bench.VAR) {
                continue;
            }
            Bench bench = tower(Bench.VAR, 9);
            int closed = bench.num(0);
            int large = bench.ofSize(119);
            for (int other : new int[] {0, 8, large}) {
                int[] words = {kind, closed, other, other};
                if (Bench.TERM_WORDS[kind] == 0) {
                    words[1] = 0;
                } else if (Bench.TERM_WORDS[kind] == 2) {
                    words[2] = closed;
                }
                dueMade("no word", bench, words);
                int whole = bench.desk.count(0) - 1;
                CHECKS.due("nothing in it is free", bench.desk.open(whole), 0);
                dueMade("it is neither high nor large", bench, Bench.IF, whole, whole, whole);
            }
        }
    }

    private static void numbers() {
        CHECKS.sentence("Terms", "0 NUMBER a, -1000 .. 1000.");
        Bench bench = new Bench(CHECKS);
        for (int wrong : new int[] {-1001, 1001, LEAST, GREATEST}) {
            dueRefused("beyond", IllegalArgumentException.class, bench, Bench.NUM, wrong, 0, 0);
        }
        for (int good : new int[] {-1000, -1, 0, 1, 1000}) {
            bench.dueNumber("number " + good, bench.num(good), good, 1);
        }
    }

    private static void truths() {
        CHECKS.sentence("Terms", "1 TRUTH a, 0 (false) or 1.");
        Bench bench = new Bench(CHECKS);
        for (int wrong : new int[] {-1, 2, LEAST, GREATEST}) {
            dueRefused("neither", IllegalArgumentException.class, bench, Bench.TRU, wrong, 0, 0);
        }
        bench.dueTruth("false", bench.no(), 0, 1);
        bench.dueTruth("true", bench.yes(), 1, 1);
        bench.dueNumber("0 is false", bench.when(bench.no(), bench.num(3), bench.num(4)), 4, 4);
        bench.dueNumber("1 is true", bench.when(bench.yes(), bench.num(3), bench.num(4)), 3, 4);
    }

    private static void variables() {
        CHECKS.sentence("Terms", "2 VARIABLE a, 0 .. 5");
        Bench bench = new Bench(CHECKS);
        for (int wrong : new int[] {-1, 6, LEAST, GREATEST}) {
            dueRefused("beyond", IllegalArgumentException.class, bench, Bench.VAR, wrong, 0, 0);
        }
        for (int good = 0; good <= 5; good++) {
            dueMade("variable " + good, bench, Bench.VAR, good, 0, 0);
        }
    }

    private static void dueClosed(String what, Bench bench, int term, boolean closed) {
        String due = closed ? "nothing thrown" : NoSuchElementException.class.getName();
        CHECKS.dueText(what + ": work", Checks.thrownBy(() -> bench.desk.work(term, 200)), due);
        CHECKS.dueText(what + ": type", Checks.thrownBy(() -> bench.desk.type(term)), due);
    }

    private static void closedTerms() {
        CHECKS.sentence("Terms", "A term is CLOSED if each variable in it is bound in it.");
        Bench b = new Bench(CHECKS);
        int five = b.num(5);
        dueClosed("a number", b, five, true);
        dueClosed("a variable", b, b.var(0), false);
        dueClosed("function, the argument", b, b.fun(b.var(0)), true);
        dueClosed("function, one further out", b, b.fun(b.var(1)), false);
        dueClosed("fix, the argument", b, b.fix(b.var(0)), true);
        dueClosed("fix, itself", b, b.fix(b.call(b.var(1), b.var(0))), true);
        dueClosed("fix, one further out", b, b.fix(b.var(2)), false);
        dueClosed("take, the piece", b, b.take(b.var(0)), true);
        dueClosed("take, one further out", b, b.take(b.var(1)), false);
        dueClosed("let, in b", b, b.let(five, b.var(0)), true);
        dueClosed("let, in b, one further out", b, b.let(five, b.var(1)), false);
        dueClosed("let binds not in a", b, b.let(b.var(0), five), false);
        dueClosed("mark binds nothing", b, b.mark(b.var(0)), false);
        dueClosed("if, in the one not chosen", b, b.when(b.yes(), five, b.var(0)), false);
        dueClosed("sum, only the first", b, b.sum(b.let(five, b.var(0)), b.var(0)), false);
    }

    private static void makeAnswersTheNumber() {
        CHECKS.sentence("Promise 2: make", "Makes a term: its number.");
        Bench bench = new Bench(CHECKS);
        for (int kind = 0; kind < Bench.KINDS; kind++) {
            dueMade("kind " + kind, bench, kind, 0, 0, 0);
        }
        dueMade("words that are none of them 0", bench, Bench.IF, 7, 5, 4);
    }

    private static void makeRefusesKinds() {
        CHECKS.sentence("Promise 2: make", "IllegalArgumentException: there is no such kind");
        Bench bench = new Bench(CHECKS);
        bench.num(0);
        for (int kind : new int[] {-1, 12, 13, LEAST, GREATEST}) {
            dueRefused("no kind", IllegalArgumentException.class, bench, kind, 0, 0, 0);
        }
        dueMade("the first kind", bench, 0, 0, 0, 0);
        dueMade("the last kind", bench, 11, 0, 0, 0);
    }

    private static void makeRefusesWords() {
        CHECKS.sentence("Promise 2: make", "or a word is not as it must be.");
        Bench bench = new Bench(CHECKS);
        bench.num(0);
        int[][] wrong = {
            {Bench.NUM, -1001, 0, 0}, {Bench.NUM, 1001, 0, 0}, {Bench.TRU, -1, 0, 0}, {Bench.TRU, 2, 0, 0},
            {Bench.VAR, -1, 0, 0}, {Bench.VAR, 6, 0, 0}, {Bench.FUN, 1, 0, 0}, {Bench.CALL, 0, 1, 0},
            {Bench.IF, 0, 0, 1}, {Bench.IF, 0, -1, 0}, {Bench.IF, 1, 1, 1}};
        for (int[] words : wrong) {
            dueRefused("a wrong word", IllegalArgumentException.class, bench, words);
        }
    }

    private static void makeRefusesWhatHasNoRoom() {
        CHECKS.sentence("Promise 2: make",
                "IllegalStateException: there are 60 terms, or its height would be above 9 or its size above 120.");
        Bench tall = tower(Bench.NUM, 9);
        dueRefused("height 10", IllegalStateException.class, tall, Bench.TAKE, 8, 0, 0);
        dueMade("there is room for lower ones", tall, Bench.TAKE, 7, 0, 0);
        Bench large = new Bench(CHECKS);
        int all = large.ofSize(120);
        dueRefused("size 121", IllegalStateException.class, large, Bench.FIX, all, 0, 0);
        dueMade("there is room for smaller ones", large, Bench.FIX, large.ofSize(119), 0, 0);
        Bench full = tower(Bench.NUM, 9);
        for (int i = 9; i < 60; i++) {
            dueMade("not full yet", full, Bench.NUM, i, 0, 0);
        }
        dueRefused("full", IllegalStateException.class, full, Bench.NUM, 0, 0, 0);
        dueRefused("full and too high", IllegalStateException.class, full, Bench.MARK, 8, 0, 0);
    }

    private static void openCountsFreeVariables() {
        CHECKS.sentence("Promise 3: open",
                "1 more than the greatest that is not bound in it (counted where the term stands)");
        Bench b = new Bench(CHECKS);
        for (int i = 0; i <= 5; i++) {
            CHECKS.due("variable " + i, b.desk.open(b.var(i)), i + 1);
        }
        int far = b.var(5);
        int near = b.var(0);
        CHECKS.due("function binds one", b.desk.open(b.fun(far)), 5);
        CHECKS.due("fix binds two", b.desk.open(b.fix(far)), 4);
        CHECKS.due("take binds one", b.desk.open(b.take(far)), 5);
        CHECKS.due("mark binds none", b.desk.open(b.mark(far)), 6);
        CHECKS.due("let binds one in b", b.desk.open(b.let(near, far)), 5);
        CHECKS.due("let binds none in a", b.desk.open(b.let(far, near)), 6);
        CHECKS.due("let, a alone", b.desk.open(b.let(near, near)), 1);
        CHECKS.due("call, first", b.desk.open(b.call(b.var(1), near)), 2);
        CHECKS.due("call, second", b.desk.open(b.call(near, b.var(1))), 2);
        CHECKS.due("sum, first", b.desk.open(b.sum(far, near)), 6);
        CHECKS.due("less, second", b.desk.open(b.less(near, far)), 6);
        CHECKS.due("if, first", b.desk.open(b.when(far, near, near)), 6);
        CHECKS.due("if, second", b.desk.open(b.when(near, far, near)), 6);
        CHECKS.due("if, third", b.desk.open(b.when(near, near, far)), 6);
        CHECKS.due("two functions", b.desk.open(b.fun(b.fun(far))), 4);
        CHECKS.due("two fixes", b.desk.open(b.fix(b.fix(far))), 2);
        CHECKS.due("the greatest that is free, not the greatest", b.desk.open(b.sum(b.fix(b.var(2)), near)), 1);
    }

    private static void openOfClosedTerms() {
        CHECKS.sentence("Promise 3: open", "0 if it is closed.");
        Bench b = new Bench(CHECKS);
        int five = b.num(5);
        CHECKS.due("a number", b.desk.open(five), 0);
        CHECKS.due("a truth", b.desk.open(b.yes()), 0);
        CHECKS.due("function that uses nothing", b.desk.open(b.fun(five)), 0);
        CHECKS.due("fix that uses nothing", b.desk.open(b.fix(five)), 0);
        CHECKS.due("fix that uses one of two", b.desk.open(b.fix(b.var(0))), 0);
        CHECKS.due("fix that uses both", b.desk.open(b.fix(b.call(b.var(1), b.var(0)))), 0);
        CHECKS.due("take that uses nothing", b.desk.open(b.take(five)), 0);
        CHECKS.due("let that uses nothing", b.desk.open(b.let(five, five)), 0);
        CHECKS.due("let that uses what it binds", b.desk.open(b.let(five, b.var(0))), 0);
        CHECKS.due("three fixes of variable 5", b.desk.open(b.fix(b.fix(b.fix(b.var(5))))), 0);
    }

    private static void openRefuses() {
        CHECKS.sentence("Promise 3: open", "NoSuchElementException: there is no such term.");
        MarkDesk desk = new MarkDesk();
        CHECKS.dueThrow("no terms", NoSuchElementException.class, () -> desk.open(0));
        for (int i = 0; i < 60; i++) {
            int next = i;
            CHECKS.dueThrow("not made yet", NoSuchElementException.class, () -> desk.open(next));
            desk.make(Bench.NUM, 0, 0, 0);
            CHECKS.due("made", desk.open(i), 0);
        }
        for (int wrong : new int[] {-1, 60, 61, LEAST, GREATEST}) {
            CHECKS.dueThrow("open " + wrong, NoSuchElementException.class, () -> desk.open(wrong));
        }
    }
}

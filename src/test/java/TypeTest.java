import java.util.NoSuchElementException;

/** The types of terms: the rule of each kind, letters, what has no type, and promises 7 and 8. */
public final class TypeTest {
    private static final Checks CHECKS = new Checks();
    private static final int LEAST = Integer.MIN_VALUE, GREATEST = Integer.MAX_VALUE;

    private TypeTest() {
    }

    public static void main(String[] args) {
        rules();
        rulesOfMarksAndTakings();
        wholeTypes();
        typePromise();
        partPromise();
        CHECKS.end("TypeTest");
    }

    private static void rules() {
        fourParts();
        numbersAndTruths();
        variables();
        functions();
        fixes();
        calls();
        sumsAndLesses();
        ifs();
        lets();
    }

    private static void rulesOfMarksAndTakings() {
        piecesAreNewEachTime();
        marks();
        takes();
    }

    private static void wholeTypes() {
        theWholeGivesWhatItsMarkGives();
        letters();
        lettersComeInOrder();
        noTypeContainsItself();
        typesOfTallTerms();
        typesOfLargeTerms();
        whatIsBoundEndsWithItsTerm();
    }

    private static void typePromise() {
        typeFinds();
        typeRefusesTerms();
        typeFindsNone();
    }

    private static void partPromise() {
        digitsFromTheLastOneOn();
        zeroIsTheTypeItself();
        answersOfPart();
        noSuchPart();
        digitsThatAreNoParts();
        zeroDigitsAreNoParts();
        pathsBelowZero();
        noTypeYet();
        longPaths();
    }

    private static void fourParts() {
        CHECKS.sentence("Terms", "a FUNCTION with four PARTS: 1 what it takes, 2 what the mark around gives if only"
                + " what is behind the call is done, 3 what it gives, 4 what the mark around gives, the call done.");
        Bench b = new Bench(CHECKS);
        int called = b.sum(b.call(b.var(0), b.num(5)), b.num(1));
        // What the piece gives is added to: it must be a number. A function is what is taken for.
        int taken = b.take(b.let(called, b.fun(b.var(0))));
        b.dueType("four of their own", b.fun(b.less(b.when(b.var(0), b.num(1), b.num(2)), taken)), "(T N T (a b a b))");
        int f = b.fun(b.less(b.var(0), b.take(b.less(called, b.num(1)))));
        b.dueType("a function that takes", f, "(N N T T)");
        b.dueType("behind its call a number is made", b.when(b.call(f, b.num(5)), b.num(1), b.num(2)), "T");
        b.dueNoType("behind its call a truth is made", b.call(f, b.num(5)));
    }

    private static void numbersAndTruths() {
        CHECKS.sentence("Terms", "NUMBER, TRUTH: of their types, from p to p.");
        Bench b = new Bench(CHECKS);
        b.dueType("number", b.num(5), "N");
        b.dueType("truth", b.yes(), "T");
        b.dueType("a number changes nothing around", b.fun(b.num(5)), "(a b N b)");
        b.dueType("nor does a truth", b.fun(b.no()), "(a b T b)");
    }

    private static void variables() {
        CHECKS.sentence("Terms", "VARIABLE: of the type bound, from p to p");
        Bench b = new Bench(CHECKS);
        b.dueType("what it takes", b.fun(b.var(0)), "(a b a b)");
        b.dueType("one further out", b.fun(b.fun(b.var(1))), "(a b (c d a d) b)");
        b.dueType("the nearest", b.fun(b.fun(b.var(0))), "(a b (c d c d) b)");
        int six = b.var(5);
        for (int i = 0; i < 6; i++) {
            six = b.fun(six);
        }
        b.dueType("six further out", six, "(a b (c d (e f (g h (i j (k l a l) j) h) f) d) b)");
        b.dueNoType("one type each time", b.fun(b.when(b.var(0), b.sum(b.var(0), b.num(1)), b.num(1))));
    }

    private static void functions() {
        CHECKS.sentence("Terms",
                "FUNCTION: if its body : u, from p to q, with the argument of type t: (1 t, 2 p, 3 u, 4 q),"
                + " from r to r.");
        Bench b = new Bench(CHECKS);
        b.dueType("what it takes and gives", b.fun(b.less(b.var(0), b.num(1))), "(N a T a)");
        // The body takes all away: what it gives, and what the mark gives behind it, may be any.
        b.dueType("a body that takes", b.fun(b.take(b.yes())), "(a b c T)");
        b.dueType("a taking body is not done yet", b.sum(b.num(1), b.let(b.fun(b.take(b.yes())), b.num(2))), "N");
    }

    private static void fixes() {
        CHECKS.sentence("Terms", "FIX likewise, itself being of the type of all.");
        Bench b = new Bench(CHECKS);
        b.dueType("its argument", b.fix(b.var(0)), "(a b a b)");
        b.dueType("itself called", b.fix(b.call(b.var(1), b.var(0))), "(a b c d)");
        b.dueType("itself called with a number", b.fix(b.call(b.var(1), b.num(1))), "(N a b c)");
        b.dueType("itself called always", b.fix(b.sum(b.call(b.var(1), b.var(0)), b.num(1))), "(a b N c)");
        int rest = b.call(b.var(1), b.sum(b.var(0), b.num(-1)));
        b.dueType("itself called sometimes",
                b.fix(b.when(b.less(b.var(0), b.num(1)), b.num(0), b.sum(b.var(0), rest))), "(N a N a)");
        b.dueNoType("itself called with other things", b.fix(b.call(b.var(1), b.fun(b.var(1)))));
        b.dueNoType("itself is no number", b.fix(b.sum(b.var(1), b.num(1))));
    }

    private static void calls() {
        CHECKS.sentence("Terms",
                "CALL: if a : (1 t, 2 p, 3 u, 4 q), from r to s, and b : t, from q to r, it : u, from p to s.");
        Bench b = new Bench(CHECKS);
        b.dueType("of a function", b.call(b.fun(b.var(0)), b.yes()), "T");
        b.dueType("of what is taken", b.fun(b.call(b.var(0), b.num(1))), "((N a b c) a b c)");
        b.dueType("with what is taken", b.fun(b.fun(b.call(b.var(1), b.var(0)))), "((a b c d) e (a b c d) e)");
        b.dueType("a takes first", b.call(b.take(b.yes()), b.take(b.num(1))), "T");
        b.dueType("then b", b.call(b.fun(b.take(b.num(1))), b.take(b.yes())), "T");
        b.dueType("then the call", b.call(b.fun(b.take(b.yes())), b.num(1)), "T");
        b.dueType("twice", b.fun(b.call(b.call(b.var(0), b.num(1)), b.num(2))), "((N a (N b c a) d) b c d)");
        b.dueNoType("a is a number", b.call(b.num(1), b.num(1)));
        b.dueNoType("a is a truth", b.call(b.yes(), b.num(1)));
        b.dueNoType("b is not what it takes", b.call(b.fun(b.sum(b.var(0), b.num(1))), b.yes()));
        b.dueNoType("b is not what it takes, though never come to",
                b.fun(b.call(b.fun(b.sum(b.var(0), b.num(1))), b.yes())));
    }

    private static void sumsAndLesses() {
        CHECKS.sentence("Terms",
                "SUM, LESS: if a : NUMBER, from r to s, and b : NUMBER, from p to r, they : NUMBER, TRUTH,"
                + " from p to s.");
        Bench b = new Bench(CHECKS);
        int one = b.num(1);
        int fallen = b.take(b.yes());
        b.dueType("sum", b.sum(one, one), "N");
        b.dueType("less", b.less(one, one), "T");
        b.dueType("sum, a takes first", b.sum(fallen, b.take(one)), "T");
        b.dueType("sum, then b", b.sum(one, fallen), "T");
        b.dueType("less, a takes first", b.less(b.take(one), fallen), "N");
        b.dueType("less, then b", b.less(one, b.take(one)), "N");
        b.dueType("sum, from p to s", b.fun(b.sum(fallen, b.var(0))), "(N a N T)");
        b.dueType("less, from p to s", b.fun(b.less(b.var(0), fallen)), "(N a T T)");
        for (int kind : new int[] {Bench.SUM, Bench.LESS}) {
            for (int other : new int[] {b.yes(), b.fun(b.var(0)), b.fix(b.var(0))}) {
                b.dueNoType("a is no number", b.make(kind, other, one, 0));
                b.dueNoType("b is no number", b.make(kind, one, other, 0));
            }
        }
    }

    private static void ifs() {
        CHECKS.sentence("Terms",
                "IF: if a : TRUTH, from r to s, and b and c : t, from p to r, it : t, from p to s.");
        Bench b = new Bench(CHECKS);
        int one = b.num(1);
        b.dueType("of numbers", b.when(b.yes(), one, one), "N");
        b.dueType("of what is taken", b.fun(b.when(b.var(0), b.fun(b.var(0)), b.fun(b.var(0)))), "(T a (b c b c) a)");
        b.dueType("a takes first", b.when(b.take(one), b.take(b.yes()), b.take(b.yes())), "N");
        b.dueType("both take", b.when(b.yes(), b.take(one), b.take(one)), "N");
        b.dueNoType("a is a number", b.when(one, one, one));
        b.dueNoType("a is a function", b.when(b.fun(b.var(0)), one, one));
        b.dueNoType("b and c give different types", b.when(b.yes(), one, b.yes()));
        b.dueNoType("b and c take for different types", b.fun(b.when(b.yes(), b.take(one), b.take(b.yes()))));
        b.dueNoType("b does not keep what c takes for", b.fun(b.sum(one, b.mark(
                b.sum(one, b.when(b.yes(), one, b.take(b.yes())))))));
    }

    private static void lets() {
        CHECKS.sentence("Terms",
                "LET: if a : t, from r to s, and b, with t bound, : u, from p to r, it : u, from p to s.");
        Bench b = new Bench(CHECKS);
        int same = b.fun(b.var(0));
        b.dueType("what is bound", b.let(b.yes(), b.var(0)), "T");
        b.dueType("a function is bound", b.let(same, b.var(0)), "(a b a b)");
        b.dueType("a takes first", b.let(b.take(b.num(1)), b.take(b.yes())), "N");
        b.dueType("then b", b.let(b.num(1), b.take(b.yes())), "T");
        int both = b.let(b.call(b.var(0), b.yes()), b.call(b.var(1), b.num(1)));
        b.dueNoType("one type for each use", b.let(same, both));
        b.dueNoType("a has none", b.let(b.sum(b.yes(), b.num(1)), b.num(1)));
    }

    private static void piecesAreNewEachTime() {
        CHECKS.sentence("Terms",
                "but a piece is, each time it is used, (1 t, 2 r, 3 p, 4 r) with a new letter r.");
        Bench b = new Bench(CHECKS);
        int five = b.num(5);
        int called = b.call(b.var(0), five);
        // One call stands where the mark gives a number in the end, the other where it gives a truth.
        int uses = b.less(b.mark(b.sum(called, five)), called);
        b.dueType("two uses, two letters", b.sum(five, b.take(uses)), "T");
        b.dueNoType("but what LET binds is one", b.sum(five, b.take(b.let(b.var(0), uses))));
        b.dueType("the piece itself", b.fun(b.take(b.var(0))), "(a b c (c d b d))");
        int under = b.let(five, b.call(b.var(1), b.var(0)));
        b.dueType("a piece further out", b.sum(five, b.take(b.less(b.mark(b.sum(under, five)), under))), "T");
        b.dueNoType("it takes one type alone", b.sum(five, b.take(b.call(b.var(0), b.yes()))));
        b.dueNoType("it gives one type alone",
                b.less(five, b.take(b.when(called, b.sum(called, five), five))));
    }

    private static void marks() {
        CHECKS.sentence("Terms", "MARK: if a : t, from t to q, it : q, from p to p.");
        Bench b = new Bench(CHECKS);
        int five = b.num(5);
        b.dueType("nothing is taken", b.fun(b.mark(b.var(0))), "(a b a b)");
        b.dueType("what is taken for", b.fun(b.mark(b.sum(five, b.take(b.yes())))), "(a b T b)");
        b.dueType("two marks", b.less(five, b.mark(b.sum(five, b.mark(b.when(b.take(five), b.yes(), b.no()))))), "T");
        b.dueNoType("a mark that gives a truth", b.sum(five, b.mark(b.sum(five, b.take(b.yes())))));
        b.dueNoType("the mark ends the taking", b.sum(b.mark(b.take(b.yes())), five));
    }

    private static void takes() {
        CHECKS.sentence("Terms",
                "TAKE: if a : t, from t to q, with a piece of t' and p bound (as with VARIABLE: 1 t', 3 p),"
                + " it : t', from p to q.");
        Bench b = new Bench(CHECKS);
        int five = b.num(5);
        b.dueType("of any type where it stands", b.fun(b.take(five)), "(a b c N)");
        b.dueType("the piece given away", b.mark(b.less(five, b.take(b.var(0)))), "(N a T a)");
        b.dueType("the piece called", b.less(five, b.take(b.call(b.var(0), five))), "T");
        b.dueType("the piece called in a function", b.fun(b.take(b.call(b.var(0), five))), "(a b N b)");
        b.dueType("a taking in a taking", b.fun(b.take(b.take(b.var(1)))), "(a b c (c d b d))");
        b.dueNoType("what the piece gives is no number",
                b.less(five, b.take(b.sum(b.call(b.var(0), five), five))));
    }

    private static void theWholeGivesWhatItsMarkGives() {
        CHECKS.sentence("Terms", "A closed term has the TYPE q if it : t, from t to q; the most general one");
        Bench b = new Bench(CHECKS);
        b.dueType("what is taken for, not what the term gives", b.sum(b.num(5), b.take(b.yes())), "T");
        b.dueType("a piece that holds nothing", b.take(b.var(0)), "(a b a b)");
        b.dueType("nothing taken", b.sum(b.num(5), b.num(5)), "N");
        b.dueType("the most general", b.fun(b.fun(b.fun(b.var(2)))), "(a b (c d (e f a f) d) b)");
    }

    private static void letters() {
        CHECKS.sentence("Terms", "Or a LETTER, which may stand for any.");
        Bench b = new Bench(CHECKS);
        int loop = b.call(b.fix(b.call(b.var(1), b.var(0))), b.num(5));
        CHECKS.due("a letter's form", b.desk.type(loop), MarkDesk.LETTER);
        b.dueType("a letter by itself", loop, "a");
        // What never ends gives what is asked for, and its mark gives anything.
        b.dueType("it may stand for a number", b.sum(loop, b.num(5)), "a");
        b.dueType("it may stand for a truth", b.when(loop, b.yes(), b.no()), "a");
        b.dueType("it may stand for a function", b.call(loop, b.num(5)), "a");
        int same = b.fun(b.var(0));
        b.dueType("what it takes may be a number", b.call(same, b.num(5)), "N");
        b.dueType("what it takes may be a truth", b.call(same, b.yes()), "T");
        b.dueType("what it takes may be a function", b.call(same, same), "(a b a b)");
    }

    private static void lettersComeInOrder() {
        CHECKS.sentence("Terms",
                "its letters are 0, 1, .. in the order in which they come in it, parts from 1 to 4, each whole.");
        Bench b = new Bench(CHECKS);
        b.dueType("part 1 whole before part 2", b.fun(b.fun(b.call(b.var(1), b.var(0)))), "((a b c d) e (a b c d) e)");
        b.dueType("part 3 whole before part 4", b.fun(b.take(b.fun(b.var(1)))), "(a b c (d e (c f b f) e))");
        b.dueType("part 1, 2, 3, 4", b.fix(b.call(b.var(1), b.var(0))), "(a b c d)");
        b.dueType("letters that come again", b.fun(b.call(b.fun(b.var(0)), b.var(0))), "(a b a b)");
        // The letters of an earlier finding do not count.
        b.dueType("begun anew", b.fun(b.var(0)), "(a b a b)");
        b.desk.type(b.fun(b.fun(b.call(b.var(1), b.var(0)))));
        CHECKS.due("letter 0", b.desk.part(11), MarkDesk.LETTER);
        CHECKS.due("letter 1", b.desk.part(21), MarkDesk.LETTER + 1);
        CHECKS.due("letter 3", b.desk.part(41), MarkDesk.LETTER + 3);
        CHECKS.due("letter 4", b.desk.part(2), MarkDesk.LETTER + 4);
    }

    private static void noTypeContainsItself() {
        CHECKS.sentence("Terms", "No type contains itself.");
        Bench b = new Bench(CHECKS);
        int v = b.var(0);
        int five = b.num(5);
        int own = b.fun(b.call(v, v));
        b.dueNoType("called with itself", own);
        b.dueNoType("beside what is asked for", b.let(own, five));
        b.dueNoType("in what is taken away", b.call(b.take(five), own));
        b.dueNoType("fix that gives itself", b.fix(b.var(1)));
        b.dueNoType("fix that takes itself", b.fix(b.call(v, b.var(1))));
        b.dueNoType("called with a function of itself", b.fun(b.call(v, b.fun(b.var(1)))));
        b.dueNoType("through two letters", b.fun(b.fun(b.when(b.yes(), b.call(v, b.var(1)), b.call(b.var(1), v)))));
        b.dueNoType("the piece with itself", b.sum(five, b.take(b.call(v, v))));
        b.dueNoType("part 2 of itself", b.fun(b.mark(b.call(v, v))));
        b.dueType("twice in another is no containing", b.fun(b.call(b.call(v, five), five)),
                "((N a (N b c a) d) b c d)");
        b.dueType("the same letter is no containing", b.fun(b.when(b.yes(), v, v)), "(a b a b)");
        b.dueType("a function with its like", b.call(b.fun(v), b.fun(v)), "(a b a b)");
    }

    private static void typesOfTallTerms() {
        CHECKS.sentence("Terms", "(1 without), at most 9");
        Bench b = new Bench(CHECKS);
        String eight = "(a b (c d (e f (g h (i j (k l (m n (o p %s p) n) l) j) h) f) d) b)";
        b.dueType("height 9 of functions", b.tower(Bench.FUN, 0), String.format(eight, "N"));
        b.dueType("height 9 of marks", b.tower(Bench.MARK, 0), "N");
        b.dueType("height 9 of takings", b.tower(Bench.TAKE, 0), "N");
        Bench c = new Bench(CHECKS);
        c.dueType("height 9 of fixes", c.tower(Bench.FIX, 0), String.format(eight, "N"));
        int fixes = c.var(0);
        for (int i = 0; i < 8; i++) {
            fixes = c.fix(fixes);
        }
        c.dueType("height 9 of fixes, 16 are bound", fixes, String.format(eight, "o"));
        Bench d = new Bench(CHECKS);
        for (int place = 0; place < 2; place++) {
            d.dueType("height 9 of calls", d.tower(Bench.CALL, place), "N");
            d.dueType("height 9 of lets", d.tower(Bench.LET, place), "N");
        }
        Bench e = new Bench(CHECKS);
        for (int place = 0; place < 2; place++) {
            e.dueType("height 9 of sums", e.tower(Bench.SUM, place), "N");
            e.dueType("height 9 of less", e.tower(Bench.LESS, place), "T");
        }
        e.dueType("height 9 of ifs, first word", e.tower(Bench.IF, 0), "T");
        e.dueType("height 9 of ifs, second word", e.tower(Bench.IF, 1), "N");
        e.dueType("height 9 of ifs, third word", e.tower(Bench.IF, 2), "N");
    }

    /**
     * A function that calls what it takes with the first, and what that gives with such functions of heights 2, 3, ..
     * up to 2 less than its own, one after the other: of that height, and its type is about as large as one can be.
     */
    private static int wide(Bench b, int height, int first) {
        int body = b.var(0);
        for (int i = 1; i <= height - 2; i++) {
            body = b.call(body, i == 1 ? first : wide(b, i, b.num(5)));
        }
        return b.fun(body);
    }

    private static int wide(Bench b, int height) {
        return wide(b, height, b.num(5));
    }

    private static void typesOfLargeTerms() {
        CHECKS.sentence("Terms", "(a term that is two words counts twice), at most 120");
        Bench b = new Bench(CHECKS);
        b.dueType("called with one", wide(b, 3), "((N a b c) a b c)");
        b.dueType("called with two", wide(b, 4), "((N a ((b c b c) d e a) f) d e f)");
        // Each of them has as many letters as its height, beside those of what it calls with.
        CHECKS.due("size 88", b.desk.type(wide(b, 9)), MarkDesk.FUNCTION);
        duePart(b, 2, MarkDesk.LETTER + 72);
        duePart(b, 3, MarkDesk.LETTER + 73);
        duePart(b, 4, MarkDesk.LETTER + 74);
        CHECKS.due("size 110, twice the same type", b.desk.type(b.when(b.yes(), wide(b, 8), wide(b, 8))),
                MarkDesk.FUNCTION);
        duePart(b, 2, MarkDesk.LETTER + 43);
        duePart(b, 3, MarkDesk.LETTER + 44);
        duePart(b, 4, MarkDesk.LETTER + 45);
        b.dueNoType("size 110, not the same at one end", b.when(b.yes(), wide(b, 8), wide(b, 8, b.yes())));
        Bench c = new Bench(CHECKS);
        c.dueType("size 120", c.ofSize(120), "N");
        int same = c.fun(c.fun(c.fun(c.fun(c.var(0)))));
        int all = same;
        for (int i = 0; i < 4; i++) {
            all = c.let(all, all);
        }
        c.dueType("64 functions", all, "(a b (c d (e f (g h g h) f) d) b)");
    }

    private static void whatIsBoundEndsWithItsTerm() {
        CHECKS.sentence("Terms", "that which is bound by the a-th term outwards that binds");
        Bench b = new Bench(CHECKS);
        int[] binding = {b.let(b.num(5), b.var(0)), b.fun(b.num(5)), b.fix(b.num(5)), b.mark(b.take(b.num(5)))};
        for (int term : binding) {
            b.dueType("behind it the function's is the nearest but one", b.fun(b.let(term, b.var(1))), "(a b a b)");
        }
        b.dueType("behind a taking", b.fun(b.let(b.take(b.num(5)), b.var(1))), "(a b a N)");
    }

    private static void typeFinds() {
        CHECKS.sentence("Promise 7: type",
                "Finds the type of a closed term, which is the latest type then: NUMBER, TRUTH, FUNCTION or LETTER.");
        Bench b = new Bench(CHECKS);
        int loop = b.call(b.fix(b.call(b.var(1), b.var(0))), b.num(5));
        int[] terms = {b.num(5), b.yes(), b.fun(b.var(0)), loop, b.fix(b.var(0)), b.num(5)};
        int[] due = {MarkDesk.NUMBER, MarkDesk.TRUTH, MarkDesk.FUNCTION, MarkDesk.LETTER, MarkDesk.FUNCTION,
            MarkDesk.NUMBER};
        for (int i = 0; i < terms.length; i++) {
            CHECKS.due("type " + i, b.desk.type(terms[i]), due[i]);
            CHECKS.due("the latest is " + i, b.desk.part(0), due[i]);
        }
    }

    private static void typeRefusesTerms() {
        CHECKS.sentence("Promise 7: type", "NoSuchElementException: there is no such term, or it is not closed.");
        Bench b = new Bench(CHECKS);
        CHECKS.dueThrow("no terms", NoSuchElementException.class, () -> b.desk.type(0));
        for (int i = 0; i <= 5; i++) {
            int variable = b.var(i);
            CHECKS.dueThrow("variable " + i, NoSuchElementException.class, () -> b.desk.type(variable));
        }
        int free = b.fun(b.sum(b.yes(), b.var(1)));
        CHECKS.dueThrow("free within, and no type", NoSuchElementException.class, () -> b.desk.type(free));
        while (b.desk.count(0) < 60) {
            int next = b.desk.count(0);
            CHECKS.dueThrow("not made yet", NoSuchElementException.class, () -> b.desk.type(next));
            b.desk.make(Bench.NUM, 0, 0, 0);
        }
        for (int wrong : new int[] {-1, 60, 61, LEAST, GREATEST}) {
            CHECKS.dueThrow("term " + wrong, NoSuchElementException.class, () -> b.desk.type(wrong));
        }
        CHECKS.due("the last of 60", b.desk.type(59), MarkDesk.NUMBER);
    }

    private static void typeFindsNone() {
        CHECKS.sentence("Promise 7: type", "IllegalArgumentException: it has none.");
        Bench b = new Bench(CHECKS);
        int wrong = b.sum(b.num(5), b.yes());
        b.dueNoType("none", wrong);
        CHECKS.due("no latest type by that", b.desk.part(0), MarkDesk.NONE);
        b.dueNoType("none, though it works out", b.when(b.yes(), b.num(5), wrong));
        b.dueNumber("it does", b.when(b.yes(), b.num(5), wrong), 5, 4);
        b.dueType("the next one is not touched by these", b.fun(b.var(0)), "(a b a b)");
        b.dueNoType("none", wrong);
        CHECKS.dueText("the latest type stays", b.typeText(), "(a b a b)");
    }

    /** A bench whose latest type is ((a b c d) e (a b c d) e). */
    private static Bench apply() {
        Bench b = new Bench(CHECKS);
        CHECKS.due("apply", b.desk.type(b.fun(b.fun(b.call(b.var(1), b.var(0))))), MarkDesk.FUNCTION);
        return b;
    }

    private static void duePart(Bench bench, int path, int want) {
        CHECKS.due("part(" + path + ")", bench.desk.part(path), want);
    }

    private static void digitsFromTheLastOneOn() {
        CHECKS.sentence("Promise 8: part", "the digits of path, from the last one on, are parts 1 .. 4");
        Bench b = apply();
        int[] inner = {MarkDesk.LETTER, MarkDesk.LETTER + 1, MarkDesk.LETTER + 2, MarkDesk.LETTER + 3};
        for (int i = 1; i <= 4; i++) {
            duePart(b, 10 * i + 1, inner[i - 1]);
            duePart(b, 10 * i + 3, inner[i - 1]);
            duePart(b, 10 * i + 2, MarkDesk.NONE);
            duePart(b, 10 * i + 4, MarkDesk.NONE);
        }
        duePart(b, 1, MarkDesk.FUNCTION);
        duePart(b, 2, MarkDesk.LETTER + 4);
        duePart(b, 3, MarkDesk.FUNCTION);
        duePart(b, 4, MarkDesk.LETTER + 4);
    }

    private static void zeroIsTheTypeItself() {
        CHECKS.sentence("Promise 8: part", "(0: the type itself)");
        Bench b = apply();
        duePart(b, 0, MarkDesk.FUNCTION);
        b.desk.type(b.num(5));
        duePart(b, 0, MarkDesk.NUMBER);
        b.desk.type(b.yes());
        duePart(b, 0, MarkDesk.TRUTH);
        b.desk.type(b.call(b.fix(b.call(b.var(1), b.var(0))), b.num(5)));
        duePart(b, 0, MarkDesk.LETTER);
    }

    private static void answersOfPart() {
        CHECKS.sentence("Promise 8: part", "NUMBER, TRUTH, FUNCTION, or LETTER + the letter's number");
        Bench b = new Bench(CHECKS);
        b.desk.type(b.fun(b.fun(b.less(b.var(0), b.num(1)))));
        // (a b (N c T c) b)
        duePart(b, 1, 3);
        duePart(b, 2, 4);
        duePart(b, 3, 2);
        duePart(b, 4, 4);
        duePart(b, 13, 0);
        duePart(b, 23, 5);
        duePart(b, 33, 1);
        duePart(b, 43, 5);
    }

    private static void noSuchPart() {
        CHECKS.sentence("Promise 8: part", "NONE if there is no such part");
        Bench b = apply();
        for (int i = 1; i <= 4; i++) {
            // Part 2 is a letter, part 2 of part 1 too.
            duePart(b, 10 * i + 2, MarkDesk.NONE);
            duePart(b, 100 * i + 21, MarkDesk.NONE);
        }
        int[] plain = {b.num(5), b.yes(), b.call(b.fix(b.call(b.var(1), b.var(0))), b.num(5))};
        for (int term : plain) {
            b.desk.type(term);
            for (int i = 1; i <= 4; i++) {
                duePart(b, i, MarkDesk.NONE);
                duePart(b, 11 * i, MarkDesk.NONE);
            }
        }
    }

    /** Eight functions, each what the one around it gives. */
    private static Bench towerOfFunctions() {
        Bench b = new Bench(CHECKS);
        int tower = b.num(5);
        for (int i = 0; i < 8; i++) {
            tower = b.fun(tower);
        }
        CHECKS.due("tower", b.desk.type(tower), MarkDesk.FUNCTION);
        return b;
    }

    private static void digitsThatAreNoParts() {
        CHECKS.sentence("Promise 8: part", "a digit is not 1 .. 4");
        Bench b = towerOfFunctions();
        for (int digit = 5; digit <= 9; digit++) {
            for (int weight = 1, inner = 0; weight <= 10_000_000; weight *= 10) {
                // That digit behind, between and before digits that are parts.
                duePart(b, digit * weight + inner, MarkDesk.NONE);
                duePart(b, 33333333 + (digit - 3) * weight, MarkDesk.NONE);
                inner = inner * 10 + 3;
            }
        }
        b.desk.type(b.num(5));
        for (int digit = 5; digit <= 9; digit++) {
            duePart(b, digit, MarkDesk.NONE);
        }
    }

    private static void zeroDigitsAreNoParts() {
        CHECKS.sentence("Promise 8: part", "a digit is not 1 .. 4");
        Bench b = towerOfFunctions();
        for (int weight = 1; weight <= 1_000_000; weight *= 10) {
            duePart(b, 33333333 - 3 * weight, MarkDesk.NONE);
        }
        // What a 0 that is let through meets can come from an earlier type: so one behind each other one.
        int many = functionsOn(new Bench(CHECKS)).length;
        for (int first = 0; first < many; first++) {
            for (int second = 0; second < many; second++) {
                Bench two = new Bench(CHECKS);
                int[] terms = functionsOn(two);
                two.desk.type(terms[first]);
                two.desk.type(terms[second]);
                pathsWithZeros(two);
            }
        }
    }

    private static int[] functionsOn(Bench b) {
        int v = b.var(0);
        int same = b.fun(v);
        int apply = b.fun(b.fun(b.call(b.var(1), v)));
        return new int[] {same, b.fun(same), apply, b.mark(apply), b.fun(b.call(v, b.num(5))),
            b.mark(b.fun(b.call(v, b.num(5)))), b.take(v), b.fun(b.take(v)), b.mark(b.fun(b.take(v))),
            b.fun(b.take(same)), b.mark(b.fun(same)), b.fun(b.take(b.take(v)))};
    }

    private static void pathsWithZeros(Bench b) {
        duePart(b, 1034, MarkDesk.NONE);
        for (int i = 1; i <= 4; i++) {
            duePart(b, 10 * i, MarkDesk.NONE);
            duePart(b, 100 * i, MarkDesk.NONE);
            for (int j = 1; j <= 4; j++) {
                duePart(b, 100 * i + j, MarkDesk.NONE);
                duePart(b, 100 * i + 10 * j, MarkDesk.NONE);
            }
        }
    }

    private static void pathsBelowZero() {
        CHECKS.sentence("Promise 8: part", "path is below 0");
        Bench b = apply();
        for (int path : new int[] {-1, -2, -3, -4, -9, -10, -11, -41, -1111111111, LEAST, LEAST + 1}) {
            duePart(b, path, MarkDesk.NONE);
        }
        b.desk.type(b.num(5));
        duePart(b, -1, MarkDesk.NONE);
        duePart(b, LEAST, MarkDesk.NONE);
    }

    private static void noTypeYet() {
        CHECKS.sentence("Promise 8: part", "or there is no type yet.");
        Bench b = new Bench(CHECKS);
        int[] paths = {0, 1, 4, 11, 5, -1, LEAST, GREATEST};
        for (int path : paths) {
            duePart(b, path, MarkDesk.NONE);
        }
        b.desk.work(b.fun(b.var(0)), 1);
        b.dueNoType("none found", b.sum(b.num(1), b.yes()));
        CHECKS.dueThrow("not closed", NoSuchElementException.class, () -> b.desk.type(b.var(0)));
        for (int path : paths) {
            duePart(b, path, MarkDesk.NONE);
        }
    }

    /**
     * What LET binds is taken, two parts deep, by what the next LET binds: a type that would be long if it were
     * written out, and that has parts at the longest paths there are.
     */
    private static void longPaths() {
        CHECKS.sentence("Promise 8: part", "Goes into the latest type by parts");
        Bench b = new Bench(CHECKS);
        int pair = b.fun(b.call(b.call(b.var(0), b.var(1)), b.var(1)));
        b.dueType("one of them", b.let(b.num(1), pair), "((N a (N b c a) d) b c d)");
        int all = pair;
        for (int i = 0; i < 4; i++) {
            all = b.let(pair, all);
        }
        CHECKS.due("five of them", b.desk.type(b.let(b.num(1), all)), MarkDesk.FUNCTION);
        for (int path = 1, i = 1; i <= 9; i++) {
            duePart(b, path, MarkDesk.FUNCTION);
            path = path * 10 + 1;
        }
        duePart(b, 1_111_111_111, MarkDesk.NUMBER);
        duePart(b, 2_111_111_111, MarkDesk.LETTER);
        duePart(b, 1_131_111_111, MarkDesk.FUNCTION);
        duePart(b, 311_111_111, MarkDesk.LETTER + 2);
        duePart(b, 1_311_111_111, MarkDesk.NONE);
        duePart(b, 2_147_483_647, MarkDesk.NONE);
        duePart(b, 2_011_111_111, MarkDesk.NONE);
        duePart(b, 1_511_111_111, MarkDesk.NONE);
        duePart(b, 1_211_111_111, MarkDesk.NONE);
        duePart(b, 21, MarkDesk.LETTER + 16);
        duePart(b, 2, MarkDesk.LETTER + 17);
        duePart(b, 3, MarkDesk.LETTER + 18);
        duePart(b, 4, MarkDesk.LETTER + 19);
        duePart(b, 41, MarkDesk.LETTER + 19);
    }
}

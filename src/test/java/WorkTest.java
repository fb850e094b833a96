import java.util.NoSuchElementException;

/** The working out of terms: what each kind gives, steps, what is stuck, and promises 4, 5, 6 and 10. */
public final class WorkTest {
    private static final Checks CHECKS = new Checks();
    private static final int LEAST = Integer.MIN_VALUE, GREATEST = Integer.MAX_VALUE;

    private WorkTest() {
    }

    public static void main(String[] args) {
        kinds();
        takings();
        stepsAndStuck();
        workPromise();
        whatIsKept();
        CHECKS.end("WorkTest");
    }

    private static void kinds() {
        variablesReachOutwards();
        functionsBindOne();
        fixBindsTwo();
        letBindsInItsSecondWord();
        sumsWrap();
        lessOfNumbers();
        ifChoosesOne();
        wordsFromTheLeft();
        ifAndLetWordsInOrder();
        functionsKeepWhatTheyNeed();
        callsOfFunctions();
    }

    private static void takings() {
        theWholeIsAMark();
        aMarkBeginsWithNothing();
        takingsReachTheNearestMark();
        takingsLeaveTheMark();
        whatATakingPutsIn();
        piecesHaveTheirOwnMark();
        piecesLaterOftenNever();
        piecesOverEachKind();
    }

    private static void stepsAndStuck() {
        stepsOfEachKind();
        marksAndPiecesDoNotWait();
        stuckCalls();
        stuckSums();
        stuckIfs();
        sumAndLessLookAtBoth();
    }

    private static void workPromise() {
        workGives();
        workRefusesTerms();
        workRefusesFuel();
        workWithAllFuel();
        workOfTallTerms();
        workGetsStuckWithin();
        workNeedsMore();
    }

    private static void whatIsKept() {
        valueOfTheLatest();
        stepsOfTheLatest();
        stepsBeforeTheFirst();
        meanOfAll();
        meanOfNone();
    }

    private static void variablesReachOutwards() {
        CHECKS.sentence("Terms",
                "that which is bound by the a-th term outwards that binds (0 the nearest; FIX binds two).");
        for (int a = 0; a <= 5; a++) {
            Bench six = new Bench(CHECKS);
            int whole = six.var(a);
            for (int i = 0; i <= 5; i++) {
                whole = six.let(six.num(i), whole);
            }
            six.dueNumber("variable " + a, whole, a, 19);
        }
        Bench b = new Bench(CHECKS);
        b.dueNumber("past terms that bind nothing", b.let(b.num(7), b.mark(b.sum(b.var(0), b.num(0)))), 7, 9);
        b.dueNumber("past a taking", b.let(b.num(7), b.take(b.var(1))), 7, 5);
        b.dueFunction("the taking's", b.let(b.num(7), b.take(b.var(0))), 5);
        b.dueNumber("past a function", b.let(b.num(7), b.call(b.fun(b.var(1)), b.num(3))), 7, 9);
        b.dueNumber("past a fix", b.let(b.num(7), b.call(b.fix(b.var(2)), b.num(3))), 7, 9);
    }

    private static void functionsBindOne() {
        CHECKS.sentence("Terms", "3 FUNCTION of body a, in which it binds one, the argument.   4 CALL of a with b.");
        Bench b = new Bench(CHECKS);
        b.dueNumber("the argument", b.let(b.num(7), b.call(b.fun(b.var(0)), b.num(3))), 3, 9);
        b.dueNumber("one further out", b.let(b.num(7), b.call(b.fun(b.var(1)), b.num(3))), 7, 9);
        b.dueNumber("of a with b, not of b with a", b.call(b.fun(b.num(1)), b.fun(b.num(2))), 1, 6);
    }

    private static void fixBindsTwo() {
        CHECKS.sentence("Terms", "FIX of body a: a function, in which it binds two: 0 the argument, 1 itself.");
        Bench b = new Bench(CHECKS);
        b.dueNumber("the argument", b.call(b.fix(b.var(0)), b.num(3)), 3, 6);
        b.dueFunction("itself", b.call(b.fix(b.var(1)), b.num(3)), 6);
        b.dueNumber("past both", b.let(b.num(7), b.call(b.fix(b.var(2)), b.num(3))), 7, 9);
        for (int a = 0; a <= 5; a++) {
            int three = b.fix(b.fix(b.fix(b.var(a))));
            int whole = b.call(b.call(b.call(three, b.num(1)), b.num(2)), b.num(3));
            if (a % 2 == 0) {
                b.dueNumber("argument of three, variable " + a, whole, 3 - a / 2, 16);
            } else {
                b.dueFunction("one of three itself, variable " + a, whole, 16);
            }
        }
    }

    private static void letBindsInItsSecondWord() {
        CHECKS.sentence("Terms", "8 LET what a gives be bound in b (one).");
        Bench b = new Bench(CHECKS);
        int inner = b.let(b.sum(b.var(0), b.num(1)), b.sum(b.var(0), b.var(1)));
        b.dueNumber("in b, not in a", b.let(b.num(7), inner), 15, 15);
        b.dueNumber("used by nothing", b.let(b.num(7), b.num(2)), 2, 4);
        b.dueFunction("a function is bound", b.let(b.fun(b.var(0)), b.var(0)), 4);
    }

    /** The final term's variable 0 is a number times 2 to the 21st; 150 steps go before it. */
    private static int grown(Bench b, int number, int last) {
        int one = b.sum(b.var(0), b.var(0));
        int two = b.let(one, one);
        int four = b.let(two, two);
        int eight = b.let(four, four);
        int sixteen = b.let(eight, eight);
        int all = b.let(sixteen, b.let(four, one));
        return b.let(b.num(number), b.let(all, last));
    }

    private static void sumsWrap() {
        CHECKS.sentence("Terms", "5 SUM of a and b (ints, wrapping).");
        Bench b = new Bench(CHECKS);
        int big = b.var(0);
        int minus = b.num(-1);
        int twice = b.sum(big, big);
        int oneLessThanTwice = b.sum(big, b.sum(big, minus));
        b.dueNumber("2 to the 30th", grown(b, 512, big), 1 << 30, 151);
        b.dueNumber("the greatest", grown(b, 512, oneLessThanTwice), GREATEST, 159);
        b.dueNumber("1 beyond the greatest", grown(b, 512, b.sum(oneLessThanTwice, b.num(1))), LEAST, 163);
        b.dueNumber("twice 2 to the 30th", grown(b, 512, twice), LEAST, 155);
        b.dueNumber("wrapped to nothing", grown(b, 512, b.sum(twice, twice)), 0, 163);
        b.dueNumber("the least", grown(b, -512, twice), LEAST, 155);
        b.dueNumber("1 beyond the least", grown(b, -512, b.sum(twice, minus)), GREATEST, 159);
        b.dueNumber("no wrap at 1000", b.sum(b.num(1000), b.num(1000)), 2000, 5);
    }

    private static void lessOfNumbers() {
        CHECKS.sentence("Terms", "6 LESS: whether a is less than b (numbers).");
        Bench b = new Bench(CHECKS);
        b.dueTruth("equal", b.less(b.num(5), b.num(5)), 0, 5);
        b.dueTruth("1 less", b.less(b.num(4), b.num(5)), 1, 5);
        b.dueTruth("1 more", b.less(b.num(6), b.num(5)), 0, 5);
        b.dueTruth("below 0", b.less(b.num(-1), b.num(0)), 1, 5);
        b.dueTruth("from end to end", b.less(b.num(-1000), b.num(1000)), 1, 5);
        int least = b.sum(b.var(0), b.var(0));
        int greatest = b.sum(b.var(0), b.sum(b.var(0), b.num(-1)));
        b.dueTruth("the least and the greatest", grown(b, 512, b.less(least, greatest)), 1, 167);
        b.dueTruth("the greatest and the least", grown(b, 512, b.less(greatest, least)), 0, 167);
        b.dueTruth("the least twice", grown(b, 512, b.less(least, least)), 0, 163);
    }

    private static void ifChoosesOne() {
        CHECKS.sentence("Terms", "7 IF a is true, b, else c.");
        Bench b = new Bench(CHECKS);
        int stuck = b.call(b.num(5), b.num(5));
        b.dueNumber("true", b.when(b.yes(), b.num(3), b.num(4)), 3, 4);
        b.dueNumber("false", b.when(b.no(), b.num(3), b.num(4)), 4, 4);
        b.dueNumber("the other would be stuck", b.when(b.no(), stuck, b.num(4)), 4, 4);
        b.dueNumber("the other would never end", b.when(b.yes(), b.num(3), b.endless()), 3, 4);
        b.dueTruth("a truth of either kind", b.when(b.less(b.num(1), b.num(1)), b.yes(), b.no()), 0, 8);
    }

    private static void wordsFromTheLeft() {
        CHECKS.sentence("Terms", "words of CALL, SUM, LESS from the left (the first one whole, then the second)");
        for (int kind : new int[] {Bench.CALL, Bench.SUM, Bench.LESS}) {
            Bench b = new Bench(CHECKS);
            int stuck = b.when(b.num(5), b.num(5), b.num(5));
            int nine = b.take(b.num(9));
            b.dueNumber("two takings: the first", b.make(kind, b.take(b.num(1)), nine, 0), 1, 3);
            b.dueNumber("the second is never begun", b.make(kind, nine, stuck, 0), 9, 3);
            b.dueStuck("the first is begun first", b.make(kind, stuck, nine, 0), 4);
            b.dueNumber("the first one is whole", b.make(kind, b.sum(b.num(1), b.num(2)), nine, 0), 9, 9);
            int both = b.make(kind, b.endless(), nine, 0);
            CHECKS.dueThrow("the first never ends", IllegalStateException.class, () -> b.desk.work(both, 200));
        }
    }

    private static void ifAndLetWordsInOrder() {
        CHECKS.sentence("Terms", "of IF the condition and then one of both, of LET a, then b.");
        Bench b = new Bench(CHECKS);
        int stuck = b.call(b.num(5), b.num(5));
        int one = b.take(b.num(1));
        int nine = b.take(b.num(9));
        b.dueNumber("if, the condition first", b.when(one, nine, nine), 1, 3);
        b.dueNumber("if, then the second", b.when(b.yes(), one, nine), 1, 5);
        b.dueNumber("if, then the third", b.when(b.no(), one, nine), 9, 5);
        b.dueStuck("if, a condition that is stuck", b.when(stuck, one, nine), 6);
        b.dueNumber("let, a first", b.let(one, nine), 1, 3);
        b.dueNumber("let, then b", b.let(b.num(5), nine), 9, 5);
        b.dueStuck("let, a is worked out though it is not used", b.let(stuck, b.num(1)), 6);
    }

    private static void functionsKeepWhatTheyNeed() {
        CHECKS.sentence("Terms", "FUNCTIONS (with what their body needs bound)");
        Bench b = new Bench(CHECKS);
        int later = b.let(b.num(8), b.call(b.var(1), b.num(0)));
        b.dueNumber("where it was made, not where it is called",
                b.let(b.num(7), b.let(b.fun(b.var(1)), later)), 7, 15);
        b.dueNumber("fix too", b.let(b.num(7), b.let(b.fix(b.var(2)), later)), 7, 15);
        int first = b.fun(b.fun(b.var(1)));
        b.dueNumber("an argument that is kept", b.call(b.call(first, b.num(7)), b.num(3)), 7, 11);
        int piece = b.let(b.num(7), b.sum(b.take(b.let(b.num(8), b.call(b.var(1), b.num(1)))), b.var(0)));
        b.dueNumber("a piece too", piece, 8, 16);
    }

    private static void callsOfFunctions() {
        CHECKS.sentence("Terms",
                "To CALL a function with a value is to work out its body with that bound (and, for FIX, itself).");
        Bench b = new Bench(CHECKS);
        b.dueNumber("what it gives is its body's", b.call(b.fun(b.num(5)), b.num(7)), 5, 6);
        int doubled = b.fun(b.sum(b.var(0), b.var(0)));
        int two = b.sum(b.call(b.var(0), b.num(1)), b.call(b.var(0), b.num(2)));
        b.dueNumber("called twice, each with its own", b.let(doubled, two), 6, 26);
        int rest = b.call(b.var(1), b.sum(b.var(0), b.num(-1)));
        int upTo = b.fix(b.when(b.less(b.var(0), b.num(1)), b.num(0), b.sum(b.var(0), rest)));
        b.dueNumber("fix, not called by itself", b.call(upTo, b.num(0)), 0, 13);
        b.dueNumber("fix, called by itself once", b.call(upTo, b.num(1)), 1, 33);
        b.dueNumber("fix, called by itself often", b.call(upTo, b.num(9)), 45, 193);
        int tooOften = b.call(upTo, b.num(10));
        CHECKS.dueThrow("fix, too often", IllegalStateException.class, () -> b.desk.work(tooOften, 200));
    }

    private static void theWholeIsAMark() {
        CHECKS.sentence("Terms", "TO WORK OUT a closed term is to do it in a mark that holds nothing else");
        Bench b = new Bench(CHECKS);
        b.dueNumber("a taking with no mark around", b.take(b.num(5)), 5, 2);
        b.dueFunction("its piece is a function", b.take(b.var(0)), 2);
        b.dueNumber("its piece holds nothing", b.take(b.call(b.var(0), b.num(5))), 5, 6);
        b.dueNumber("all up to the end is taken", b.sum(b.num(3), b.take(b.num(5))), 5, 5);
    }

    private static void aMarkBeginsWithNothing() {
        CHECKS.sentence("Terms",
                "MARK a: a is worked out, with nothing to be done in this mark yet; what it gives, the mark gives.");
        Bench b = new Bench(CHECKS);
        b.dueNumber("a number", b.mark(b.num(5)), 5, 2);
        b.dueTruth("a truth", b.mark(b.mark(b.yes())), 1, 3);
        b.dueFunction("a function", b.mark(b.fun(b.var(0))), 2);
        b.dueNumber("the piece is empty", b.sum(b.num(1), b.mark(b.take(b.call(b.var(0), b.num(5))))), 6, 11);
        b.dueNumber("nothing is taken", b.sum(b.num(1), b.mark(b.take(b.num(5)))), 6, 7);
    }

    private static void takingsReachTheNearestMark() {
        CHECKS.sentence("Terms", "what is still to be done with its value, up to the nearest mark around it"
                + " (not the mark itself), becomes a function, the PIECE, and is taken away");
        Bench b = new Bench(CHECKS);
        int call = b.take(b.call(b.var(0), b.num(10)));
        b.dueNumber("up to a mark", b.sum(b.num(1), b.mark(b.sum(b.num(2), b.take(b.num(10))))), 11, 10);
        int inner = b.mark(b.sum(b.num(4), call));
        b.dueNumber("the nearest of two", b.sum(b.num(1), b.mark(b.sum(b.num(2), inner))), 17, 20);
        // If the mark went away with the piece, the second taking would reach the 1 as well.
        int again = b.take(b.take(b.num(10)));
        b.dueNumber("the mark stays", b.sum(b.num(1), b.mark(b.sum(b.num(2), again))), 11, 11);
        b.dueNumber("done with its value from the left", b.sum(call, b.num(3)), 13, 10);
        b.dueNumber("done with its value from the right", b.sum(b.num(3), call), 13, 10);
        b.dueNumber("taken away: done by the call alone", b.sum(b.num(3), b.take(b.num(10))), 10, 5);
    }

    private static void takingsLeaveTheMark() {
        CHECKS.sentence("Terms",
                "then a is worked out, with the piece bound, in the same mark, with nothing else to be done in it.");
        Bench b = new Bench(CHECKS);
        int ten = b.num(10);
        b.dueNumber("the inner piece is empty", b.sum(b.num(3), b.take(b.take(b.call(b.var(0), ten)))), 10, 10);
        b.dueNumber("the outer piece is not", b.sum(b.num(3), b.take(b.take(b.call(b.var(1), ten)))), 13, 11);
        int second = b.sum(b.num(4), b.take(b.call(b.var(0), ten)));
        b.dueNumber("only what came since", b.sum(b.num(1), b.mark(b.sum(b.num(2), b.take(second)))), 15, 19);
        b.dueFunction("the piece is bound", b.sum(b.num(3), b.take(b.var(0))), 5);
    }

    private static void whatATakingPutsIn() {
        CHECKS.sentence("Terms", "10 TAKE a, in which it binds one, the piece.");
        Bench b = new Bench(CHECKS);
        b.dueFunction("variable 0 is the piece", b.let(b.num(7), b.take(b.var(0))), 5);
        b.dueNumber("variable 1 is further out", b.let(b.num(7), b.take(b.var(1))), 7, 5);
        int two = b.take(b.sum(b.call(b.var(0), b.num(1)), b.var(1)));
        b.dueNumber("both", b.let(b.num(7), b.sum(b.num(3), two)), 11, 17);
    }

    private static void piecesHaveTheirOwnMark() {
        CHECKS.sentence("Terms", "To call a piece with a value is to work out a mark in which that is to be done"
                + " with the value; what that mark gives, the call gives.");
        Bench b = new Bench(CHECKS);
        int ten = b.num(10);
        int three = b.num(3);
        int thenThree = b.take(b.sum(b.call(b.var(0), three), three));
        // The taking of 10 in the called piece must not reach the 3 behind the call.
        b.dueNumber("a taking in a called piece", b.sum(thenThree, b.take(ten)), 13, 14);
        b.dueNumber("behind the call all goes on", b.sum(thenThree, b.num(100)), 106, 14);
        b.dueNumber("an empty piece gives its value", b.take(b.call(b.var(0), ten)), 10, 6);
        b.dueNumber("an empty piece, and behind it", b.take(b.sum(b.call(b.var(0), ten), three)), 13, 10);
    }

    private static void piecesLaterOftenNever() {
        CHECKS.sentence("What it is", "as a function that can be called later, often or never");
        Bench b = new Bench(CHECKS);
        int ten = b.num(10);
        int three = b.num(3);
        int p = b.var(0);
        b.dueNumber("never", b.mark(b.sum(three, b.take(ten))), 10, 6);
        int given = b.mark(b.sum(three, b.take(p)));
        b.dueFunction("not yet", given, 6);
        b.dueNumber("later", b.call(given, ten), 13, 11);
        b.dueNumber("later, twice", b.let(given, b.call(p, b.call(p, ten))), 16, 19);
        int often = b.take(b.call(p, b.call(p, b.call(p, ten))));
        b.dueNumber("often", b.mark(b.sum(three, often)), 19, 21);
        int both = b.take(b.sum(b.call(p, b.num(1)), b.call(p, ten)));
        b.dueNumber("twice, the first call leaves nothing behind", b.sum(both, b.num(100)), 211, 21);
    }

    private static void piecesOverEachKind() {
        CHECKS.sentence("Terms", "what is still to be done with its value");
        Bench b = new Bench(CHECKS);
        int p = b.var(0);
        int three = b.num(3);
        int four = b.num(4);
        b.dueNumber("over if", b.when(b.take(b.call(p, b.no())), three, four), 4, 9);
        b.dueNumber("over let", b.let(b.take(b.sum(b.call(p, b.num(1)), b.call(p, b.num(2)))), b.sum(p, p)), 6, 27);
        b.dueNumber("over call, what is called", b.call(b.take(b.call(p, b.fun(p))), three), 3, 11);
        b.dueNumber("over call, with what", b.call(b.fun(b.sum(p, b.num(1))), b.take(b.call(p, four))), 5, 15);
        b.dueTruth("over less, first", b.less(b.take(b.call(p, three)), four), 1, 10);
        b.dueTruth("over less, second", b.less(four, b.take(b.call(p, three))), 0, 10);
        b.dueNumber("over two sums", b.sum(b.sum(b.take(b.call(p, three)), four), b.num(100)), 107, 14);
    }

    private static void stepsOfEachKind() {
        CHECKS.sentence("Terms", "A STEP is each beginning of a term to be worked out, and each coming of a value to a"
                + " term that waits for it (CALL, SUM and LESS wait twice, IF and LET once");
        Bench b = new Bench(CHECKS);
        int five = b.num(5);
        b.dueNumber("number", five, 5, 1);
        b.dueTruth("truth", b.yes(), 1, 1);
        b.dueFunction("function", b.fun(b.var(0)), 1);
        b.dueFunction("fix", b.fix(b.var(0)), 1);
        b.dueNumber("call, and the body's variable", b.call(b.fun(b.var(0)), five), 5, 6);
        b.dueNumber("call of fix", b.call(b.fix(b.var(0)), five), 5, 6);
        b.dueNumber("sum", b.sum(five, five), 10, 5);
        b.dueTruth("less", b.less(five, five), 0, 5);
        b.dueNumber("if", b.when(b.yes(), five, five), 5, 4);
        b.dueNumber("let", b.let(five, b.var(0)), 5, 4);
        b.dueNumber("sums in a sum", b.sums(7), 8, 29);
    }

    private static void marksAndPiecesDoNotWait() {
        CHECKS.sentence("Terms", "a mark and a piece do not wait");
        Bench b = new Bench(CHECKS);
        int five = b.num(5);
        int marks = five;
        for (int i = 1; i <= 8; i++) {
            marks = b.mark(marks);
            b.dueNumber(i + " marks", marks, 5, i + 1);
        }
        b.dueNumber("a taking", b.take(five), 5, 2);
        b.dueNumber("a called piece that is empty", b.take(b.call(b.var(0), five)), 5, 6);
        b.dueNumber("a called piece, the sum in it waits", b.sum(five, b.take(b.call(b.var(0), five))), 10, 10);
    }

    private static void stuckCalls() {
        CHECKS.sentence("Terms", "STUCK is a term in which something is called that is no function");
        Bench b = new Bench(CHECKS);
        int five = b.num(5);
        b.dueStuck("a number", b.call(five, five), 5);
        b.dueStuck("the number 0", b.call(b.num(0), b.fun(b.var(0))), 5);
        b.dueStuck("true", b.call(b.yes(), five), 5);
        b.dueStuck("false", b.call(b.no(), five), 5);
        b.dueStuck("deep in a term", b.sum(five, b.mark(b.let(b.call(five, five), five))), 10);
        b.dueNumber("a function is none of these", b.call(b.fun(five), five), 5, 6);
        b.dueNumber("nor is fix", b.call(b.fix(five), five), 5, 6);
        b.dueNumber("nor is a piece", b.take(b.call(b.var(0), five)), 5, 6);
        b.dueNumber("a call that is not come to", b.call(five, b.take(five)), 5, 5);
    }

    private static void stuckSums() {
        CHECKS.sentence("Terms", "or SUM or LESS gets what is no number");
        for (int kind : new int[] {Bench.SUM, Bench.LESS}) {
            Bench b = new Bench(CHECKS);
            int five = b.num(5);
            int[] others = {b.yes(), b.no(), b.fun(b.var(0)), b.fix(b.var(0))};
            for (int other : others) {
                b.dueStuck("first", b.make(kind, other, five, 0), 5);
                b.dueStuck("second", b.make(kind, five, other, 0), 5);
                b.dueStuck("both", b.make(kind, other, other, 0), 5);
            }
            b.dueStuck("a piece first", b.take(b.make(kind, b.var(0), five, 0)), 6);
            b.dueStuck("a piece second", b.take(b.make(kind, five, b.var(0), 0)), 6);
        }
    }

    private static void stuckIfs() {
        CHECKS.sentence("Terms", "or IF what is no truth");
        Bench b = new Bench(CHECKS);
        int five = b.num(5);
        b.dueStuck("the number 0", b.when(b.num(0), five, five), 3);
        b.dueStuck("the number 1", b.when(b.num(1), five, five), 3);
        b.dueStuck("a function", b.when(b.fun(b.var(0)), five, five), 3);
        b.dueStuck("fix", b.when(b.fix(b.var(0)), five, five), 3);
        b.dueStuck("a piece", b.take(b.when(b.var(0), five, five)), 4);
    }

    private static void sumAndLessLookAtBoth() {
        CHECKS.sentence("Terms", "(SUM and LESS look at both when both are there)");
        for (int kind : new int[] {Bench.SUM, Bench.LESS}) {
            Bench b = new Bench(CHECKS);
            b.dueNumber("the second takes it away", b.make(kind, b.yes(), b.take(b.num(5)), 0), 5, 5);
            b.dueStuck("not before the second has come", b.make(kind, b.yes(), b.sums(2), 0), 13);
            int never = b.make(kind, b.yes(), b.endless(), 0);
            CHECKS.dueThrow("the second never comes", IllegalStateException.class, () -> b.desk.work(never, 200));
        }
    }

    private static void workGives() {
        CHECKS.sentence("Promise 4: work",
                "Works out a closed term: NUMBER, TRUTH or FUNCTION, what it gives, which is the latest value then.");
        Bench b = new Bench(CHECKS);
        b.dueNumber("a number", b.num(-7), -7, 1);
        b.dueTruth("a truth", b.yes(), 1, 1);
        b.dueFunction("a function", b.fun(b.var(0)), 1);
        b.dueFunction("fix", b.fix(b.var(0)), 1);
        b.dueFunction("a piece", b.take(b.var(0)), 2);
        b.dueNumber("a number again", b.num(3), 3, 1);
    }

    private static void workRefusesTerms() {
        CHECKS.sentence("Promise 4: work", "NoSuchElementException: there is no such term, or it is not closed.");
        Bench b = new Bench(CHECKS);
        CHECKS.dueThrow("no terms", NoSuchElementException.class, () -> b.desk.work(0, 10));
        for (int i = 0; i <= 5; i++) {
            int variable = b.var(i);
            CHECKS.dueThrow("variable " + i, NoSuchElementException.class, () -> b.desk.work(variable, 10));
        }
        int free = b.fun(b.var(1));
        CHECKS.dueThrow("free within", NoSuchElementException.class, () -> b.desk.work(free, 10));
        while (b.desk.count(0) < 60) {
            int next = b.desk.count(0);
            CHECKS.dueThrow("not made yet", NoSuchElementException.class, () -> b.desk.work(next, 10));
            b.desk.make(Bench.NUM, 0, 0, 0);
        }
        for (int wrong : new int[] {-1, 60, 61, LEAST, GREATEST}) {
            CHECKS.dueThrow("term " + wrong, NoSuchElementException.class, () -> b.desk.work(wrong, 10));
        }
        CHECKS.due("the last of 60", b.desk.work(59, 10), MarkDesk.NUMBER);
    }

    private static void workRefusesFuel() {
        CHECKS.sentence("Promise 4: work", "IndexOutOfBoundsException: fuel is not 1 .. 200.");
        Bench b = new Bench(CHECKS);
        int number = b.num(1);
        for (int wrong : new int[] {0, -1, 201, 202, LEAST, GREATEST}) {
            CHECKS.dueThrow("fuel " + wrong, IndexOutOfBoundsException.class, () -> b.desk.work(number, wrong));
        }
        CHECKS.due("fuel 1", b.desk.work(number, 1), MarkDesk.NUMBER);
        CHECKS.due("fuel 200", b.desk.work(number, 200), MarkDesk.NUMBER);
    }

    private static void workWithAllFuel() {
        CHECKS.sentence("Promise 4: work", "fuel is not 1 .. 200");
        Bench b = new Bench(CHECKS);
        b.dueNumber("1 step", b.num(1), 1, 1);
        b.dueNumber("2 steps", b.mark(b.num(1)), 1, 2);
        b.dueNumber("197 steps", b.sums(49), 50, 197);
        b.dueNumber("200 steps", b.when(b.yes(), b.sums(49), b.num(1)), 50, 200);
        Bench marked = new Bench(CHECKS);
        marked.dueNumber("200 steps, 39 of them marks, size 120", onesUnderMarks(marked, 41, 39), 41, 200);
    }

    /** The sum of so many ones, so many of them under a mark. */
    private static int onesUnderMarks(Bench b, int ones, int marks) {
        if (ones == 1) {
            return marks == 0 ? b.num(1) : b.mark(b.num(1));
        }
        int left = ones / 2;
        int marksLeft = Math.min(left, marks);
        return b.sum(onesUnderMarks(b, left, marksLeft), onesUnderMarks(b, ones - left, marks - marksLeft));
    }

    private static void workOfTallTerms() {
        CHECKS.sentence("Terms", "(1 without), at most 9");
        Bench b = new Bench(CHECKS);
        b.dueFunction("height 9 of functions", b.tower(Bench.FUN, 0), 1);
        b.dueFunction("height 9 of fixes", b.tower(Bench.FIX, 0), 1);
        b.dueNumber("height 9 of marks", b.tower(Bench.MARK, 0), 5, 9);
        b.dueNumber("height 9 of takings", b.tower(Bench.TAKE, 0), 5, 9);
        Bench c = new Bench(CHECKS);
        c.dueNumber("height 9 of calls, first word", c.tower(Bench.CALL, 0), 5, 21);
        c.dueNumber("height 9 of calls, second word", c.tower(Bench.CALL, 1), 5, 36);
        c.dueNumber("height 9 of lets, first word", c.tower(Bench.LET, 0), 5, 25);
        c.dueNumber("height 9 of lets, second word", c.tower(Bench.LET, 1), 5, 25);
        Bench d = new Bench(CHECKS);
        d.dueNumber("height 9 of sums, first word", d.tower(Bench.SUM, 0), 13, 33);
        d.dueNumber("height 9 of sums, second word", d.tower(Bench.SUM, 1), 13, 33);
        d.dueTruth("height 9 of less, first word", d.tower(Bench.LESS, 0), 0, 33);
        d.dueTruth("height 9 of less, second word", d.tower(Bench.LESS, 1), 1, 33);
        d.dueTruth("height 9 of ifs, first word", d.tower(Bench.IF, 0), 1, 25);
        d.dueNumber("height 9 of ifs, second word", d.tower(Bench.IF, 1), 5, 25);
        d.dueNumber("height 9 of ifs, third word", d.tower(Bench.IF, 2), 5, 25);
    }

    private static void workGetsStuckWithin() {
        CHECKS.sentence("Promise 4: work", "IllegalArgumentException: it gets STUCK within that many steps.");
        Bench b = new Bench(CHECKS);
        int number = b.num(1);
        b.dueStuck("at step 3", b.when(number, number, number), 3);
        b.dueStuck("at step 200", b.sum(b.yes(), b.when(b.yes(), b.sums(48), number)), 200);
        int beyond = b.sum(b.yes(), b.sums(49));
        CHECKS.dueThrow("at step 201", IllegalStateException.class, () -> b.desk.work(beyond, 200));
    }

    private static void workNeedsMore() {
        CHECKS.sentence("Promise 4: work", "IllegalStateException: it needs more.");
        Bench b = new Bench(CHECKS);
        int two = b.sums(50);
        CHECKS.dueThrow("201 steps", IllegalStateException.class, () -> b.desk.work(two, 200));
        int v = b.var(0);
        int itself = b.var(1);
        int five = b.num(5);
        int twice = b.fun(b.mark(b.call(v, v)));
        int taken = b.fun(b.take(b.sum(five, b.call(b.var(1), b.var(1)))));
        int[] withoutEnd = {
            b.endless(), b.call(twice, twice), b.call(taken, taken),
            b.call(b.fix(b.call(itself, v)), five),
            b.call(b.fix(b.sum(five, b.call(itself, v))), five),
            b.call(b.fix(b.let(b.call(itself, v), v)), five),
            b.call(b.fix(b.when(b.yes(), b.call(itself, b.fun(v)), v)), five),
            b.call(b.fix(b.mark(b.take(b.call(v, b.call(b.var(2), five))))), five),
            b.call(b.fix(b.sum(five, b.take(b.call(v, b.call(b.var(2), five))))), five)};
        for (int term : withoutEnd) {
            for (int fuel : new int[] {1, 2, 7, 50, 199, 200}) {
                CHECKS.dueThrow("without end: " + term + " with " + fuel, IllegalStateException.class,
                        () -> b.desk.work(term, fuel));
            }
        }
        b.dueNumber("the next one is not touched by these", b.sum(five, five), 10, 5);
    }

    private static void valueOfTheLatest() {
        CHECKS.sentence("Promise 5: value",
                "The latest value, if it is a number, or 1 or 0 for a truth; 0 otherwise.");
        Bench b = new Bench(CHECKS);
        CHECKS.due("none yet", b.desk.value(), 0);
        int seven = b.num(7);
        int[] terms = {seven, b.yes(), b.num(-1000), b.no(), seven, b.fun(b.var(0)), seven, b.fix(b.num(9)), seven,
            b.take(b.var(0)), b.num(1000), b.num(0)};
        int[] due = {7, 1, -1000, 0, 7, 0, 7, 0, 7, 0, 1000, 0};
        for (int i = 0; i < terms.length; i++) {
            b.desk.work(terms[i], 200);
            CHECKS.due("value " + i, b.desk.value(), due[i]);
            CHECKS.due("value " + i + " once more", b.desk.value(), due[i]);
        }
        b.desk.work(seven, 200);
        int stuck = b.call(seven, seven);
        CHECKS.dueThrow("stuck", IllegalArgumentException.class, () -> b.desk.work(stuck, 200));
        CHECKS.dueThrow("more", IllegalStateException.class, () -> b.desk.work(stuck, 1));
        b.desk.type(b.yes());
        CHECKS.due("only a found value is the latest", b.desk.value(), 7);
    }

    private static void stepsOfTheLatest() {
        CHECKS.sentence("Promise 6: steps", "The steps of the latest work() that gave a value");
        Bench b = new Bench(CHECKS);
        int five = b.num(5);
        int sum = b.sum(five, five);
        int stuck = b.call(five, five);
        b.desk.work(sum, 200);
        CHECKS.due("of a sum", b.desk.steps(), 5);
        CHECKS.dueThrow("stuck", IllegalArgumentException.class, () -> b.desk.work(stuck, 200));
        CHECKS.due("not of the stuck one", b.desk.steps(), 5);
        CHECKS.dueThrow("more", IllegalStateException.class, () -> b.desk.work(sum, 4));
        CHECKS.due("not of one that needs more", b.desk.steps(), 5);
        CHECKS.dueThrow("fuel", IndexOutOfBoundsException.class, () -> b.desk.work(five, 0));
        CHECKS.dueThrow("no term", NoSuchElementException.class, () -> b.desk.work(-1, 1));
        b.desk.type(five);
        CHECKS.due("not of refused ones", b.desk.steps(), 5);
        b.desk.work(five, 200);
        CHECKS.due("fewer than before", b.desk.steps(), 1);
        b.desk.work(b.fun(five), 1);
        CHECKS.due("of a function", b.desk.steps(), 1);
    }

    private static void stepsBeforeTheFirst() {
        CHECKS.sentence("Promise 6: steps", "0 before the first.");
        Bench b = new Bench(CHECKS);
        CHECKS.due("new", b.desk.steps(), 0);
        int stuck = b.call(b.num(5), b.num(5));
        CHECKS.due("terms alone", b.desk.steps(), 0);
        CHECKS.dueThrow("stuck", IllegalArgumentException.class, () -> b.desk.work(stuck, 200));
        CHECKS.dueThrow("more", IllegalStateException.class, () -> b.desk.work(stuck, 3));
        CHECKS.due("no value yet", b.desk.steps(), 0);
    }

    private static void meanOfAll() {
        CHECKS.sentence("Promise 10: mean",
                "Of the values found since the beginning the mean of their steps, as a float: all steps divided by"
                + " how many");
        Bench b = new Bench(CHECKS);
        int five = b.num(5);
        int sum = b.sum(five, five);
        int stuck = b.call(five, five);
        b.desk.work(sum, 200);
        CHECKS.dueFloat("of 5", b.desk.mean(), 5f);
        b.desk.work(five, 200);
        CHECKS.dueFloat("of 5, 1", b.desk.mean(), 3f);
        b.desk.work(five, 200);
        CHECKS.dueFloat("of 5, 1, 1: no whole number", b.desk.mean(), 7f / 3f);
        CHECKS.dueThrow("stuck", IllegalArgumentException.class, () -> b.desk.work(stuck, 200));
        CHECKS.dueThrow("more", IllegalStateException.class, () -> b.desk.work(sum, 4));
        CHECKS.dueFloat("of values alone", b.desk.mean(), 7f / 3f);
        b.desk.work(b.fun(five), 200);
        CHECKS.dueFloat("a function is a value", b.desk.mean(), 2f);
        b.desk.work(b.yes(), 200);
        b.desk.work(b.yes(), 200);
        CHECKS.dueFloat("of 5, 1, 1, 1, 1, 1", b.desk.mean(), 10f / 6f);
    }

    private static void meanOfNone() {
        CHECKS.sentence("Promise 10: mean", "0f if none was.");
        Bench b = new Bench(CHECKS);
        CHECKS.dueFloat("new", b.desk.mean(), 0f);
        int stuck = b.call(b.num(5), b.num(5));
        CHECKS.dueThrow("stuck", IllegalArgumentException.class, () -> b.desk.work(stuck, 200));
        CHECKS.dueThrow("more", IllegalStateException.class, () -> b.desk.work(stuck, 3));
        b.desk.type(b.num(5));
        CHECKS.dueFloat("no value yet", b.desk.mean(), 0f);
    }
}

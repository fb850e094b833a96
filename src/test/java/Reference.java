import java.util.ArrayList;
import java.util.Collections;
import java.util.HashMap;
import java.util.IdentityHashMap;
import java.util.List;
import java.util.Map;
import java.util.Set;
import java.util.function.Function;

/**
 * The document's rules once more, in the plainest words and with nothing in common with MarkDesk: a taking
 * is handed outwards as a result, and types are found from the words upwards, by the rules' letters.
 */
final class Reference {
    static final int NUM = 0, TRU = 1, VAR = 2, FUN = 3, CALL = 4, SUM = 5, LESS = 6, IF = 7, LET = 8, MARK = 9;
    static final int TAKE = 10, FIX = 11;

    private Reference() {
    }

    /** A term written out as a tree. */
    record Tree(int kind, int word, List<Tree> words) {
        Tree at(int i) {
            return words.get(i);
        }

        int height() {
            int tallest = 0;
            for (Tree tree : words) {
                tallest = Math.max(tallest, tree.height());
            }
            return tallest + 1;
        }

        int size() {
            int sum = 1;
            for (Tree tree : words) {
                sum += tree.size();
            }
            return sum;
        }
    }

    static final class Stuck extends RuntimeException {
        private static final long serialVersionUID = 1L;
    }

    static final class NeedsMore extends RuntimeException {
        private static final long serialVersionUID = 1L;
    }

    static final class NoType extends RuntimeException {
        private static final long serialVersionUID = 1L;
    }

    /** A number, a truth, or (with call) a function. */
    record Value(int form, int number, Function<Value, Result> call) {
    }

    /** Either a value, or a taking on its way out to its mark with what it has gathered so far. */
    record Result(Value value, Function<Value, Result> gathered, Function<Value, Result> body) {
        static Result of(Value value) {
            return new Result(value, null, null);
        }

        Result then(Function<Value, Result> next) {
            if (value != null) {
                return next.apply(value);
            }
            return new Result(null, v -> gathered.apply(v).then(next), body);
        }

        Result inMark() {
            if (value != null) {
                return this;
            }
            Value piece = new Value(MarkDesk.FUNCTION, 0, v -> gathered.apply(v).inMark());
            return body.apply(piece).inMark();
        }
    }

    /** Works out one term. */
    static final class Worker {
        private final int fuel;
        int steps;

        Worker(int fuel) {
            this.fuel = fuel;
        }

        Value whole(Tree tree) {
            return begin(tree, List.of()).inMark().value();
        }

        private void step() {
            if (steps == fuel) {
                throw new NeedsMore();
            }
            steps++;
        }

        private Result begin(Tree tree, List<Value> bound) {
            step();
            switch (tree.kind()) {
                case NUM: return Result.of(new Value(MarkDesk.NUMBER, tree.word(), null));
                case TRU: return Result.of(new Value(MarkDesk.TRUTH, tree.word(), null));
                case VAR: return Result.of(bound.get(tree.word()));
                case FUN: return Result.of(new Value(MarkDesk.FUNCTION, 0, v -> begin(tree.at(0), with(v, bound))));
                case FIX: return Result.of(fixed(tree, bound));
                case IF: return coming(tree.at(0), bound, v -> begin(tree.at(isTrue(v) ? 1 : 2), bound));
                case LET: return coming(tree.at(0), bound, v -> begin(tree.at(1), with(v, bound)));
                case MARK: return begin(tree.at(0), bound).inMark();
                case TAKE: return new Result(null, Result::of, piece -> begin(tree.at(0), with(piece, bound)));
                default: return coming(tree.at(0), bound,
                        v -> coming(tree.at(1), bound, w -> both(tree.kind(), v, w)));
            }
        }

        private Value fixed(Tree tree, List<Value> bound) {
            Value[] self = new Value[1];
            self[0] = new Value(MarkDesk.FUNCTION, 0, v -> begin(tree.at(0), with(v, with(self[0], bound))));
            return self[0];
        }

        private Result coming(Tree word, List<Value> bound, Function<Value, Result> next) {
            return begin(word, bound).then(v -> {
                step();
                return next.apply(v);
            });
        }

        private static boolean isTrue(Value value) {
            if (value.form() != MarkDesk.TRUTH) {
                throw new Stuck();
            }
            return value.number() == 1;
        }

        private static Result both(int kind, Value v, Value w) {
            if (kind == CALL) {
                if (v.form() != MarkDesk.FUNCTION) {
                    throw new Stuck();
                }
                return v.call().apply(w);
            }
            if (v.form() != MarkDesk.NUMBER || w.form() != MarkDesk.NUMBER) {
                throw new Stuck();
            }
            if (kind == SUM) {
                return Result.of(new Value(MarkDesk.NUMBER, v.number() + w.number(), null));
            }
            return Result.of(new Value(MarkDesk.TRUTH, v.number() < w.number() ? 1 : 0, null));
        }
    }

    private static <X> List<X> with(X first, List<X> rest) {
        List<X> all = new ArrayList<>();
        all.add(first);
        all.addAll(rest);
        return all;
    }

    /** A type; a letter may come to stand for another type. */
    static final class Type {
        final int form;
        final List<Type> parts;
        Type standsFor;

        Type(int form, Type... parts) {
            this.form = form;
            this.parts = List.of(parts);
        }

        Type real() {
            return standsFor == null ? this : standsFor.real();
        }

        boolean contains(Type letter, Set<Type> seen) {
            Type real = real();
            if (real == letter) {
                return true;
            }
            if (seen.add(real)) {
                for (Type inner : real.parts) {
                    if (inner.contains(letter, seen)) {
                        return true;
                    }
                }
            }
            return false;
        }
    }

    static final Type NUMBERS = new Type(MarkDesk.NUMBER);
    static final Type TRUTHS = new Type(MarkDesk.TRUTH);

    private static Type letter() {
        return new Type(MarkDesk.LETTER);
    }

    private static Type function(Type one, Type two, Type three, Type four) {
        return new Type(MarkDesk.FUNCTION, one, two, three, four);
    }

    private static void same(Type one, Type other) {
        Type x = one.real();
        Type y = other.real();
        if (x == y) {
            return;
        }
        if (x.form == MarkDesk.LETTER) {
            if (y.contains(x, Collections.newSetFromMap(new IdentityHashMap<>()))) {
                throw new NoType();
            }
            x.standsFor = y;
        } else if (y.form == MarkDesk.LETTER) {
            same(y, x);
        } else if (x.form != y.form) {
            throw new NoType();
        } else {
            for (int i = 0; i < x.parts.size(); i++) {
                same(x.parts.get(i), y.parts.get(i));
            }
        }
    }

    /** "E : t, from p to q". */
    record Said(Type t, Type p, Type q) {
    }

    /** What is bound: of the type t, or (with gives) a piece that takes t. */
    record Bound(Type t, Type gives) {
        Type used() {
            Type r = letter();
            return gives == null ? t : function(t, r, gives, r);
        }
    }

    static Type typeOfWhole(Tree tree) {
        Said said = said(tree, List.of());
        same(said.t(), said.p());
        return said.q();
    }

    private static Said plain(Type t) {
        Type p = letter();
        return new Said(t, p, p);
    }

    private static Said said(Tree tree, List<Bound> bound) {
        switch (tree.kind()) {
            case NUM: return plain(NUMBERS);
            case TRU: return plain(TRUTHS);
            case VAR: return plain(bound.get(tree.word()).used());
            case FUN:
            case FIX: return saidOfFunction(tree, bound);
            case MARK: return plain(saidOfWhole(tree.at(0), bound));
            case TAKE: {
                Type taken = letter();
                Type p = letter();
                return new Said(taken, p, saidOfWhole(tree.at(0), with(new Bound(taken, p), bound)));
            }
            default: return saidOfWaiting(tree, bound);
        }
    }

    private static Type saidOfWhole(Tree tree, List<Bound> bound) {
        Said said = said(tree, bound);
        same(said.t(), said.p());
        return said.q();
    }

    private static Said saidOfFunction(Tree tree, List<Bound> bound) {
        Type t = letter();
        Type self = letter();
        List<Bound> around = tree.kind() == FIX ? with(new Bound(self, null), bound) : bound;
        Said body = said(tree.at(0), with(new Bound(t, null), around));
        same(self, function(t, body.p(), body.t(), body.q()));
        return plain(self);
    }

    private static Said saidOfWaiting(Tree tree, List<Bound> bound) {
        Said a = said(tree.at(0), bound);
        List<Bound> inB = tree.kind() == LET ? with(new Bound(a.t(), null), bound) : bound;
        Said b = said(tree.at(1), inB);
        same(b.q(), a.p());
        switch (tree.kind()) {
            case CALL: {
                Type p = letter();
                Type u = letter();
                Type q = letter();
                same(function(b.t(), p, u, q), a.t());
                same(b.p(), q);
                return new Said(u, p, a.q());
            }
            case LET: return new Said(b.t(), b.p(), a.q());
            case IF: {
                Said c = said(tree.at(2), bound);
                same(a.t(), TRUTHS);
                same(b.t(), c.t());
                same(b.p(), c.p());
                same(b.q(), c.q());
                return new Said(b.t(), b.p(), a.q());
            }
            default: {
                same(a.t(), NUMBERS);
                same(b.t(), NUMBERS);
                return new Said(tree.kind() == SUM ? NUMBERS : TRUTHS, b.p(), a.q());
            }
        }
    }

    /** The numbers of a type's letters in the order in which they come. */
    static Map<Type, Integer> lettersOf(Type type) {
        Map<Type, Integer> letters = new IdentityHashMap<>();
        number(type.real(), letters, Collections.newSetFromMap(new IdentityHashMap<>()));
        return letters;
    }

    private static void number(Type type, Map<Type, Integer> letters, Set<Type> seen) {
        if (!seen.add(type)) {
            return;
        }
        if (type.form == MarkDesk.LETTER) {
            letters.put(type, letters.size());
        }
        for (Type inner : type.parts) {
            number(inner.real(), letters, seen);
        }
    }

    static int partOf(Type whole, Map<Type, Integer> letters, String digitsFromTheFirstStepOn) {
        Type at = whole.real();
        for (char digit : digitsFromTheFirstStepOn.toCharArray()) {
            if (digit < '1' || digit > '4' || at.form != MarkDesk.FUNCTION) {
                return MarkDesk.NONE;
            }
            at = at.parts.get(digit - '1').real();
        }
        return at.form == MarkDesk.LETTER ? MarkDesk.LETTER + letters.get(at) : at.form;
    }

    /** Makes the tree's terms on the desk, each but once; known holds what was made before. */
    static int makeOn(MarkDesk desk, Tree tree, Map<Tree, Integer> known) {
        Integer before = known.get(tree);
        if (before != null) {
            return before;
        }
        int[] made = {tree.word(), -9, -9};
        for (int i = 0; i < tree.words().size(); i++) {
            made[i] = makeOn(desk, tree.at(i), known);
        }
        int term = desk.make(tree.kind(), made[0], made[1], made[2]);
        known.put(tree, term);
        return term;
    }

    static Map<Tree, Integer> nothingMade() {
        return new HashMap<>();
    }
}

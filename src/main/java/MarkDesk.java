import java.util.Arrays;
import java.util.NoSuchElementException;

/** Terms with functions, marks and takings of what is still to be done: worked out and typed. */
public final class MarkDesk {
    public static final int NONE = -1;
    public static final int NUMBER = 0, TRUTH = 1, FUNCTION = 2, LETTER = 3;

    private final Terms terms;
    private final Machine machine;
    private final Typing typing;
    private final KnownType latestType;

    private int latestValue;
    private int latestSteps;
    private long allSteps;
    private int valuesFound;
    private int stuckTerms;
    private int neededMore;
    private int typesFound;
    private int typesMissing;

    public MarkDesk() {
        Terms made = new Terms();
        terms = made;
        machine = new Machine(made);
        typing = new Typing(made);
        latestType = new KnownType();
    }

    public int make(int kind, int a, int b, int c) throws IllegalArgumentException, IllegalStateException {
        if (!terms.wordsFit(kind, a, b, c)) {
            throw new IllegalArgumentException();
        }
        if (!terms.hasRoomFor(kind, a, b, c)) {
            throw new IllegalStateException();
        }
        return terms.add(kind, a, b, c);
    }

    public int open(int term) throws NoSuchElementException {
        if (!terms.has(term)) {
            throw new NoSuchElementException();
        }
        return terms.needed[term];
    }

    public int work(int term, int fuel)
            throws NoSuchElementException, IndexOutOfBoundsException, IllegalArgumentException, IllegalStateException {
        if (!terms.hasClosed(term)) {
            throw new NoSuchElementException();
        }
        if (fuel < 1 || fuel > Machine.MAX_FUEL) {
            throw new IndexOutOfBoundsException();
        }
        int end = machine.workOut(term, fuel);
        if (end == Machine.STUCK) {
            stuckTerms++;
            throw new IllegalArgumentException();
        }
        if (end != Machine.GAVE) {
            neededMore++;
            throw new IllegalStateException();
        }
        return keepValue();
    }

    public int value() {
        return latestValue;
    }

    public int steps() {
        return latestSteps;
    }

    public int type(int term) throws NoSuchElementException, IllegalArgumentException {
        if (!terms.hasClosed(term)) {
            throw new NoSuchElementException();
        }
        int found = typing.typeOfWhole(term);
        if (found == NONE) {
            typesMissing++;
            throw new IllegalArgumentException();
        }
        typesFound++;
        latestType.keep(typing.types, found);
        return latestType.at(0);
    }

    public int part(int path) {
        return latestType.at(path);
    }

    public int count(int what) {
        switch (what) {
            case 0: return terms.used;
            case 1: return valuesFound;
            case 2: return stuckTerms;
            case 3: return neededMore;
            case 4: return typesFound;
            case 5: return typesMissing;
            default: return NONE;
        }
    }

    public float mean() {
        if (valuesFound == 0) {
            return 0f;
        }
        return (float) allSteps / (float) valuesFound;
    }

    private int keepValue() {
        latestValue = machine.plainResult();
        latestSteps = machine.stepsDone;
        allSteps += latestSteps;
        valuesFound++;
        return machine.resultForm();
    }

    /** The kinds of terms; their numbers are the document's. */
    private static final class Kind {
        static final int NUMBER_TERM = 0, TRUTH_TERM = 1, VARIABLE = 2, FUNCTION_TERM = 3, CALL = 4, SUM = 5;
        static final int LESS = 6, IF = 7, LET = 8, MARK = 9, TAKE = 10, FIX = 11;

        /** How many of a kind's words are terms: always the first ones. */
        static final int[] TERM_WORDS = {0, 0, 0, 1, 2, 2, 2, 3, 2, 1, 1, 1};
        /** How many variables a kind binds in the last of its words. */
        static final int[] BINDS = {0, 0, 0, 1, 0, 0, 0, 0, 1, 0, 1, 2};
    }

    /** All terms that were made, with what is known of each. */
    private static final class Terms {
        static final int MAX_TERMS = 60, MAX_HEIGHT = 9, MAX_SIZE = 120;
        static final int MAX_NUMBER = 1000, MAX_VARIABLE = 5;

        final int[] kind = new int[MAX_TERMS];
        final int[] first = new int[MAX_TERMS];
        final int[] second = new int[MAX_TERMS];
        final int[] third = new int[MAX_TERMS];
        final int[] needed = new int[MAX_TERMS];
        private final int[] height = new int[MAX_TERMS];
        private final int[] size = new int[MAX_TERMS];
        int used;

        boolean has(int term) {
            return term >= 0 && term < used;
        }

        boolean hasClosed(int term) {
            return has(term) && needed[term] == 0;
        }

        boolean wordsFit(int ofKind, int a, int b, int c) {
            if (ofKind < 0 || ofKind >= Kind.TERM_WORDS.length) {
                return false;
            }
            switch (ofKind) {
                case Kind.NUMBER_TERM: return a >= -MAX_NUMBER && a <= MAX_NUMBER;
                case Kind.TRUTH_TERM: return a == 0 || a == 1;
                case Kind.VARIABLE: return a >= 0 && a <= MAX_VARIABLE;
                default: break;
            }
            int words = Kind.TERM_WORDS[ofKind];
            return has(a) && (words < 2 || has(b)) && (words < 3 || has(c));
        }

        boolean hasRoomFor(int ofKind, int a, int b, int c) {
            int words = Kind.TERM_WORDS[ofKind];
            return used < MAX_TERMS
                    && heightOver(words, a, b, c) <= MAX_HEIGHT
                    && sizeOver(words, a, b, c) <= MAX_SIZE;
        }

        int add(int ofKind, int a, int b, int c) {
            int words = Kind.TERM_WORDS[ofKind];
            int made = used;
            kind[made] = ofKind;
            first[made] = a;
            second[made] = b;
            third[made] = c;
            height[made] = heightOver(words, a, b, c);
            size[made] = sizeOver(words, a, b, c);
            needed[made] = ofKind == Kind.VARIABLE ? a + 1 : neededOver(ofKind, a, b, c);
            used++;
            return made;
        }

        private int heightOver(int words, int a, int b, int c) {
            int tallest = words >= 1 ? height[a] : 0;
            if (words >= 2) {
                tallest = Math.max(tallest, height[b]);
            }
            if (words >= 3) {
                tallest = Math.max(tallest, height[c]);
            }
            return tallest + 1;
        }

        private int sizeOver(int words, int a, int b, int c) {
            int sum = words >= 1 ? size[a] : 0;
            if (words >= 2) {
                sum += size[b];
            }
            if (words >= 3) {
                sum += size[c];
            }
            return sum + 1;
        }

        private int neededOver(int ofKind, int a, int b, int c) {
            int bound = Kind.BINDS[ofKind];
            switch (Kind.TERM_WORDS[ofKind]) {
                case 1: return Math.max(0, needed[a] - bound);
                case 2: return Math.max(needed[a], needed[b] - bound);
                case 3: return Math.max(needed[a], Math.max(needed[b], needed[c]));
                default: return 0;
            }
        }
    }

    /** The values of one working out; a step makes at most one. */
    private static final class Values {
        /** A form beside NUMBER, TRUTH and FUNCTION: also a function, but made by TAKE. */
        static final int PIECE = 3;

        final int[] form = new int[Machine.MAX_FUEL];
        /** The number, the truth, the term that made the function, or the first waiting of the piece. */
        final int[] content = new int[Machine.MAX_FUEL];
        final int[] scope = new int[Machine.MAX_FUEL];
        private int used;

        void clear() {
            used = 0;
        }

        int add(int ofForm, int itsContent, int itsScope) {
            form[used] = ofForm;
            content[used] = itsContent;
            scope[used] = itsScope;
            return used++;
        }
    }

    /** Chains of what is bound, the nearest first; a step (a call of a FIX) makes at most two links. */
    private static final class Scopes {
        private final int[] bound = new int[2 * Machine.MAX_FUEL];
        private final int[] outer = new int[2 * Machine.MAX_FUEL];
        private int used;

        void clear() {
            used = 0;
        }

        int bind(int itsValue, int around) {
            bound[used] = itsValue;
            outer[used] = around;
            return used++;
        }

        int look(int scope, int variable) {
            int at = scope;
            for (int i = 0; i < variable && at != NONE; i++) {
                at = outer[at];
            }
            return at == NONE ? NONE : bound[at];
        }
    }

    /**
     * Terms that wait for a value, chained from the innermost outwards up to their mark; a step makes
     * at most one. They are never changed, because a piece that holds them can be called often.
     */
    private static final class Waitings {
        final int[] term = new int[Machine.MAX_FUEL];
        final int[] scope = new int[Machine.MAX_FUEL];
        /** The first word's value if that has come. */
        final int[] held = new int[Machine.MAX_FUEL];
        final int[] next = new int[Machine.MAX_FUEL];
        private int used;

        void clear() {
            used = 0;
        }

        int add(int itsTerm, int itsScope, int itsHeld, int behind) {
            term[used] = itsTerm;
            scope[used] = itsScope;
            held[used] = itsHeld;
            next[used] = behind;
            return used++;
        }
    }

    /** Works out one closed term at a time; all rows are used again by the next one. */
    private static final class Machine {
        static final int MAX_FUEL = 200;
        static final int GAVE = 0, STUCK = 1, NEEDS_MORE = 2;
        private static final int UNDER_WAY = 3;
        /** Each round is a step or the leaving of a mark, and a step enters at most one mark. */
        private static final int MAX_ROUNDS = 2 * MAX_FUEL + 2;

        private final Terms terms;
        private final Values values = new Values();
        private final Scopes scopes = new Scopes();
        private final Waitings waitings = new Waitings();
        /** What is still to be done behind each mark but the innermost. */
        private final int[] behindMarks = new int[MAX_FUEL];
        private int marks;
        /** What is still to be done in the innermost mark. */
        private int toDo;
        private int term;
        private int scope;
        /** The value that goes to what waits for it; NONE while the term is to be begun. */
        private int given;
        private int end;
        private int fuelLeft;
        int stepsDone;

        Machine(Terms ofDesk) {
            terms = ofDesk;
        }

        int workOut(int whole, int fuel) {
            values.clear();
            scopes.clear();
            waitings.clear();
            marks = 0;
            toDo = NONE;
            fuelLeft = fuel;
            stepsDone = 0;
            end = UNDER_WAY;
            goTo(whole, NONE);
            for (int i = 0; i < MAX_ROUNDS && end == UNDER_WAY; i++) {
                doRound();
            }
            return end;
        }

        int resultForm() {
            return Math.min(values.form[given], FUNCTION);
        }

        int plainResult() {
            return resultForm() == FUNCTION ? 0 : values.content[given];
        }

        private void doRound() {
            if (given != NONE && toDo == NONE) {
                leaveMark();
            } else if (fuelLeft == 0) {
                end = NEEDS_MORE;
            } else {
                fuelLeft--;
                stepsDone++;
                if (given == NONE) {
                    beginTerm();
                } else {
                    bringValue();
                }
            }
        }

        private void goTo(int nextTerm, int itsScope) {
            term = nextTerm;
            scope = itsScope;
            given = NONE;
        }

        private void enterMark(int toDoInIt) {
            behindMarks[marks] = toDo;
            marks++;
            toDo = toDoInIt;
        }

        private void leaveMark() {
            if (marks == 0) {
                end = GAVE;
            } else {
                marks--;
                toDo = behindMarks[marks];
            }
        }

        private void beginTerm() {
            int word = terms.first[term];
            switch (terms.kind[term]) {
                case Kind.NUMBER_TERM:
                    given = values.add(NUMBER, word, NONE);
                    break;
                case Kind.TRUTH_TERM:
                    given = values.add(TRUTH, word, NONE);
                    break;
                case Kind.VARIABLE:
                    given = scopes.look(scope, word);
                    break;
                case Kind.FUNCTION_TERM:
                case Kind.FIX:
                    given = values.add(FUNCTION, term, scope);
                    break;
                case Kind.MARK:
                    enterMark(NONE);
                    term = word;
                    break;
                case Kind.TAKE:
                    scope = scopes.bind(values.add(Values.PIECE, toDo, NONE), scope);
                    toDo = NONE;
                    term = word;
                    break;
                default:
                    toDo = waitings.add(term, scope, NONE, toDo);
                    term = word;
                    break;
            }
        }

        private void bringValue() {
            int at = toDo;
            int waiting = waitings.term[at];
            int kind = terms.kind[waiting];
            toDo = waitings.next[at];
            if (kind == Kind.IF) {
                choose(waiting, waitings.scope[at]);
            } else if (kind == Kind.LET) {
                goTo(terms.second[waiting], scopes.bind(given, waitings.scope[at]));
            } else if (waitings.held[at] == NONE) {
                toDo = waitings.add(waiting, waitings.scope[at], given, toDo);
                goTo(terms.second[waiting], waitings.scope[at]);
            } else if (kind == Kind.CALL) {
                callWith(waitings.held[at], given);
            } else {
                joinNumbers(kind, waitings.held[at], given);
            }
        }

        private void choose(int waiting, int itsScope) {
            if (values.form[given] != TRUTH) {
                end = STUCK;
            } else if (values.content[given] == 1) {
                goTo(terms.second[waiting], itsScope);
            } else {
                goTo(terms.third[waiting], itsScope);
            }
        }

        private void callWith(int called, int argument) {
            int form = values.form[called];
            if (form == Values.PIECE) {
                // The argument stays the given value: it goes on to what the piece waits with.
                enterMark(values.content[called]);
            } else if (form == FUNCTION) {
                int maker = values.content[called];
                int around = values.scope[called];
                if (terms.kind[maker] == Kind.FIX) {
                    around = scopes.bind(called, around);
                }
                goTo(terms.first[maker], scopes.bind(argument, around));
            } else {
                end = STUCK;
            }
        }

        private void joinNumbers(int kind, int left, int right) {
            if (values.form[left] != NUMBER || values.form[right] != NUMBER) {
                end = STUCK;
            } else if (kind == Kind.SUM) {
                given = values.add(NUMBER, values.content[left] + values.content[right], NONE);
            } else {
                given = values.add(TRUTH, values.content[left] < values.content[right] ? 1 : 0, NONE);
            }
        }
    }

    /**
     * The types of one finding, as nodes that can be made the same. Sameness is followed also through
     * types that contain themselves; noneContainsItself() tells at the end whether there are such.
     */
    private static final class Types {
        static final int PARTS = 4;
        static final int NUMBER_NODE = 0, TRUTH_NODE = 1;
        /** FUNCTION and FIX make the most nodes; the whole needs two letters beside the two fixed nodes. */
        static final int MAX_NODES = 5 * Terms.MAX_SIZE + 4;
        /** No term makes more than one function node, so at most so many are made the same, part by part. */
        private static final int MAX_PAIRS = PARTS * Terms.MAX_SIZE + 1;
        private static final int NEW = 0, ENTERED = 1, LEFT = 2;

        final int[] form = new int[MAX_NODES];
        private final int[] sameAs = new int[MAX_NODES];
        private final int[] parts = new int[PARTS * MAX_NODES];
        private final int[] pairs = new int[2 * MAX_PAIRS];
        private final int[] progress = new int[MAX_NODES];
        private final int[] partsSeen = new int[MAX_NODES];
        private final int[] path = new int[MAX_NODES];
        private int used;
        private int pending;

        void clear() {
            used = 0;
            addNode(NUMBER);
            addNode(TRUTH);
        }

        int letter() {
            return addNode(LETTER);
        }

        int function(int takes, int before, int gives, int after) {
            int made = addNode(FUNCTION);
            parts[PARTS * made] = takes;
            parts[PARTS * made + 1] = before;
            parts[PARTS * made + 2] = gives;
            parts[PARTS * made + 3] = after;
            return made;
        }

        /** The node that stands for all that were made the same as this one. */
        int chosen(int node) {
            int at = node;
            for (int i = 0; i < used && sameAs[at] != at; i++) {
                // Halving the way keeps later looks short.
                sameAs[at] = sameAs[sameAs[at]];
                at = sameAs[at];
            }
            return at;
        }

        int chosenPart(int node, int index) {
            return chosen(parts[PARTS * node + index]);
        }

        boolean makeSame(int one, int other) {
            pending = 0;
            addPair(one, other);
            for (int i = 0; i < MAX_PAIRS && pending > 0; i++) {
                pending--;
                int left = chosen(pairs[2 * pending]);
                int right = chosen(pairs[2 * pending + 1]);
                if (left != right && !join(left, right)) {
                    return false;
                }
            }
            return true;
        }

        boolean noneContainsItself() {
            for (int node = 0; node < used; node++) {
                int start = chosen(node);
                if (form[start] == FUNCTION && progress[start] == NEW && !endsEverywhere(start)) {
                    return false;
                }
            }
            return true;
        }

        private int addNode(int ofForm) {
            form[used] = ofForm;
            sameAs[used] = used;
            progress[used] = NEW;
            partsSeen[used] = 0;
            return used++;
        }

        private void addPair(int one, int other) {
            pairs[2 * pending] = one;
            pairs[2 * pending + 1] = other;
            pending++;
        }

        private boolean join(int left, int right) {
            if (form[left] == LETTER) {
                sameAs[left] = right;
                return true;
            }
            if (form[right] == LETTER) {
                sameAs[right] = left;
                return true;
            }
            if (form[left] != FUNCTION || form[right] != FUNCTION) {
                return false;
            }
            sameAs[left] = right;
            for (int i = 0; i < PARTS; i++) {
                addPair(parts[PARTS * left + i], parts[PARTS * right + i]);
            }
            return true;
        }

        /** Goes into functions with a row of its own, because types can be deeper than calls may be. */
        private boolean endsEverywhere(int start) {
            int depth = 1;
            path[0] = start;
            progress[start] = ENTERED;
            for (int i = 0; i < (PARTS + 1) * MAX_NODES && depth > 0; i++) {
                int node = path[depth - 1];
                if (partsSeen[node] == PARTS) {
                    progress[node] = LEFT;
                    depth--;
                    continue;
                }
                int inner = chosenPart(node, partsSeen[node]);
                partsSeen[node]++;
                if (form[inner] == FUNCTION && progress[inner] == ENTERED) {
                    return false;
                }
                if (form[inner] == FUNCTION && progress[inner] == NEW) {
                    progress[inner] = ENTERED;
                    path[depth] = inner;
                    depth++;
                }
            }
            return true;
        }
    }

    /** The document's rules "E : t, from p to q". */
    private static final class Typing {
        private static final int MAX_BOUND = 2 * Terms.MAX_HEIGHT;

        private final Terms terms;
        final Types types = new Types();
        /** What is bound where the rules are now: the type, or for a piece what it takes. */
        private final int[] boundType = new int[MAX_BOUND];
        /** For a piece what it gives; NONE for all else. */
        private final int[] pieceGives = new int[MAX_BOUND];
        private int bound;

        Typing(Terms ofDesk) {
            terms = ofDesk;
        }

        /** The node of a closed term's type in types, or NONE if it has no type. */
        int typeOfWhole(int term) {
            types.clear();
            bound = 0;
            int behind = types.letter();
            int whole = types.letter();
            if (!holds(term, behind, behind, whole, 1) || !types.noneContainsItself()) {
                return NONE;
            }
            return whole;
        }

        /** Makes the term : t, from p to q; false if that can't be. */
        private boolean holds(int term, int t, int p, int q, int level) {
            if (level > Terms.MAX_HEIGHT) {
                return false;
            }
            int word = terms.first[term];
            switch (terms.kind[term]) {
                case Kind.NUMBER_TERM:
                    return types.makeSame(t, Types.NUMBER_NODE) && types.makeSame(p, q);
                case Kind.TRUTH_TERM:
                    return types.makeSame(t, Types.TRUTH_NODE) && types.makeSame(p, q);
                case Kind.VARIABLE:
                    return types.makeSame(t, typeOfVariable(word)) && types.makeSame(p, q);
                case Kind.FUNCTION_TERM:
                case Kind.FIX:
                    return types.makeSame(p, q) && functionHolds(term, t, level);
                case Kind.CALL:
                    return callHolds(term, t, p, q, level);
                case Kind.SUM:
                    return types.makeSame(t, Types.NUMBER_NODE) && numbersHold(term, p, q, level);
                case Kind.LESS:
                    return types.makeSame(t, Types.TRUTH_NODE) && numbersHold(term, p, q, level);
                case Kind.IF:
                    return ifHolds(term, t, p, q, level);
                case Kind.LET:
                    return letHolds(term, t, p, q, level);
                case Kind.MARK:
                    return types.makeSame(p, q) && wholeHolds(word, t, level);
                default:
                    return takeHolds(word, t, p, q, level);
            }
        }

        private int typeOfVariable(int variable) {
            int at = bound - 1 - variable;
            if (at < 0) {
                return types.letter();
            }
            if (pieceGives[at] == NONE) {
                return boundType[at];
            }
            int answer = types.letter();
            return types.function(boundType[at], answer, pieceGives[at], answer);
        }

        private void bind(int type, int gives) {
            boundType[bound] = type;
            pieceGives[bound] = gives;
            bound++;
        }

        private boolean functionHolds(int term, int t, int level) {
            int takes = types.letter();
            int before = types.letter();
            int gives = types.letter();
            int after = types.letter();
            int self = types.function(takes, before, gives, after);
            int outside = bound;
            if (terms.kind[term] == Kind.FIX) {
                bind(self, NONE);
            }
            bind(takes, NONE);
            boolean bodyHolds = holds(terms.first[term], gives, before, after, level + 1);
            bound = outside;
            return bodyHolds && types.makeSame(t, self);
        }

        private boolean callHolds(int term, int t, int p, int q, int level) {
            int takes = types.letter();
            int after = types.letter();
            int between = types.letter();
            int called = types.function(takes, p, t, after);
            return holds(terms.first[term], called, between, q, level + 1)
                    && holds(terms.second[term], takes, after, between, level + 1);
        }

        private boolean numbersHold(int term, int p, int q, int level) {
            int between = types.letter();
            return holds(terms.first[term], Types.NUMBER_NODE, between, q, level + 1)
                    && holds(terms.second[term], Types.NUMBER_NODE, p, between, level + 1);
        }

        private boolean ifHolds(int term, int t, int p, int q, int level) {
            int between = types.letter();
            return holds(terms.first[term], Types.TRUTH_NODE, between, q, level + 1)
                    && holds(terms.second[term], t, p, between, level + 1)
                    && holds(terms.third[term], t, p, between, level + 1);
        }

        private boolean letHolds(int term, int t, int p, int q, int level) {
            int named = types.letter();
            int between = types.letter();
            if (!holds(terms.first[term], named, between, q, level + 1)) {
                return false;
            }
            bind(named, NONE);
            boolean bodyHolds = holds(terms.second[term], t, p, between, level + 1);
            bound--;
            return bodyHolds;
        }

        private boolean takeHolds(int body, int t, int p, int q, int level) {
            bind(t, p);
            boolean bodyHolds = wholeHolds(body, q, level);
            bound--;
            return bodyHolds;
        }

        /** What a mark holds, or a taking puts into it: nothing is behind it, so it gives what it makes. */
        private boolean wholeHolds(int body, int q, int level) {
            int made = types.letter();
            return holds(body, made, made, q, level + 1);
        }
    }

    /** The latest type, kept apart so that later findings do not touch it. */
    private static final class KnownType {
        private static final int UNSEEN = -1;

        /** What part() answers for a node: its form, for a letter LETTER + its number. */
        private final int[] answer = new int[Types.MAX_NODES];
        private final int[] parts = new int[Types.PARTS * Types.MAX_NODES];
        /** Each function puts its parts here once, and no term makes more than one function node. */
        private final int[] waiting = new int[Types.PARTS * Terms.MAX_SIZE + 1];
        private int root = NONE;
        private int letters;

        void keep(Types types, int found) {
            root = types.chosen(found);
            letters = 0;
            Arrays.fill(answer, UNSEEN);
            waiting[0] = root;
            int left = 1;
            for (int i = 0; i < waiting.length && left > 0; i++) {
                left--;
                int node = waiting[left];
                if (answer[node] == UNSEEN) {
                    left = keepNode(types, node, left);
                }
            }
        }

        int at(int path) {
            if (root == NONE || path < 0) {
                return NONE;
            }
            int node = root;
            for (int rest = path; rest > 0; rest /= 10) {
                int digit = rest % 10;
                if (digit < 1 || digit > Types.PARTS || answer[node] != FUNCTION) {
                    return NONE;
                }
                node = parts[Types.PARTS * node + digit - 1];
            }
            return answer[node];
        }

        private int keepNode(Types types, int node, int left) {
            answer[node] = types.form[node];
            if (answer[node] == LETTER) {
                answer[node] = LETTER + letters;
                letters++;
                return left;
            }
            if (answer[node] != FUNCTION) {
                return left;
            }
            int top = left;
            // The last part goes in first, so that letters are numbered from part 1 on.
            for (int i = Types.PARTS - 1; i >= 0; i--) {
                int inner = types.chosenPart(node, i);
                parts[Types.PARTS * node + i] = inner;
                waiting[top] = inner;
                top++;
            }
            return top;
        }
    }
}

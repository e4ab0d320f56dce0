import java.util.Arrays;

/**
 * A judge of terms in which types may hang on values: terms are made, reduced and compared,
 * their types are found, and constants are declared and defined once they are found to be well
 * made.
 */
public final class TermJudge {
    public static final int NONE = -1;

    private static final int VARIABLE = 0;
    private static final int UNIVERSE = 1;
    private static final int PI = 2;
    private static final int FUNCTION = 3;
    private static final int APPLICATION = 4;
    private static final int CONSTANT = 5;

    private static final int MOST_TERMS = 120;
    private static final int MOST_NODES = 60;
    private static final int MOST_DEEP = 12;
    private static final int MOST_CONSTANTS = 16;
    private static final int MOST_FUEL = 30;
    /** The greatest a of a VARIABLE or a UNIVERSE that may be made. */
    private static final int GREATEST_SIGN = 9;
    /** A mark is its kind and so many for each 1 of its a. */
    private static final int SIGN_STEP = 10;

    /** Nodes that fit before the rows must grow; most calls stay far below. */
    private static final int FIRST_PLACES = 512;
    /** Above what any call can need: some 15,000 nodes, beside those that stay. */
    private static final int MOST_PLACES = 1 << 16;
    /** Above what a comparison can hold open: 30 reductions allow no way of 200 parts down. */
    private static final int MOST_PAIRS = 512;
    /** Above the pairs that 31 terms of 60 nodes can give. */
    private static final int MOST_ROUNDS = 1000000;

    private final Nodes nodes;
    private final Constants known;
    private final Reducer reducer;
    private final Finder finder;
    private final Marks result;
    private final Marks foundType;

    public TermJudge() {
        nodes = new Nodes();
        known = new Constants();
        reducer = new Reducer(nodes, known);
        finder = new Finder(nodes, known, reducer);
        result = new Marks();
        foundType = new Marks();
    }

    public int make(int kind, int a, int b) {
        if (!mayBeMade(kind, a, b)) {
            return NONE;
        }
        return nodes.addTerm(kind, a, hasParts(kind) ? b : NONE);
    }

    public int terms() {
        return nodes.termCount();
    }

    public int term(int t, int what) {
        if (!nodes.isTerm(t)) {
            return NONE;
        }
        switch (what) {
            case 0:
                return nodes.kindOf(t);
            case 1:
                return nodes.leftOf(t);
            case 2:
                return nodes.rightOf(t);
            case 3:
                return nodes.sizeOf(t);
            case 4:
                return nodes.depthOf(t);
            default:
                return NONE;
        }
    }

    public int infer(int t, int fuel)
            throws IllegalArgumentException, IllegalStateException, UnsupportedOperationException {
        begin(t, t, fuel);
        return result.write(nodes, finder.typeFound(t));
    }

    public int reduce(int t, int fuel)
            throws IllegalArgumentException, UnsupportedOperationException {
        begin(t, t, fuel);
        return result.write(nodes, reducer.headForm(t));
    }

    public boolean same(int s, int t, int fuel)
            throws IllegalArgumentException, UnsupportedOperationException {
        begin(s, t, fuel);
        return reducer.areSame(s, t);
    }

    public boolean check(int t, int type, int fuel)
            throws IllegalArgumentException, IllegalStateException, UnsupportedOperationException {
        begin(t, type, fuel);
        finder.levelOf(finder.typeFound(type));
        return reducer.areSame(finder.typeFound(t), type);
    }

    public int declare(int type, int fuel)
            throws IllegalArgumentException, IllegalStateException, UnsupportedOperationException {
        if (known.isFull()) {
            return refuseUnlooked();
        }
        begin(type, type, fuel);
        finder.levelOf(finder.typeFound(type));
        return known.add(type, NONE);
    }

    public int define(int body, int fuel)
            throws IllegalArgumentException, IllegalStateException, UnsupportedOperationException {
        if (known.isFull()) {
            return refuseUnlooked();
        }
        begin(body, body, fuel);
        foundType.write(nodes, finder.typeFound(body));
        if (foundType.hasTooGreat(UNIVERSE)) {
            return NONE;
        }
        return known.add(lasting(foundType), body);
    }

    public int constants() {
        return known.count();
    }

    public boolean hasBody(int c) {
        return known.bodyAt(c) != NONE;
    }

    public int typeOf(int c) {
        if (!known.isThere(c)) {
            return NONE;
        }
        return result.write(nodes, known.typeAt(c));
    }

    public int mark(int k) {
        return result.at(k);
    }

    public int keep() {
        if (result.isEmpty() || result.hasTooGreat(UNIVERSE) || result.hasTooGreat(VARIABLE)) {
            return NONE;
        }
        int before = nodes.termCount();
        int number = result.read(nodes, true);
        if (number == NONE) {
            nodes.cutTerms(before);
        }
        return number;
    }

    public int reduced() {
        return reducer.madeCount();
    }

    private static boolean hasParts(int kind) {
        return kind == PI || kind == FUNCTION || kind == APPLICATION;
    }

    private boolean mayBeMade(int kind, int a, int b) {
        if (kind == VARIABLE || kind == UNIVERSE) {
            return a >= 0 && a <= GREATEST_SIGN;
        }
        if (kind == CONSTANT) {
            return known.isThere(a);
        }
        return hasParts(kind) && nodes.isTerm(a) && nodes.isTerm(b) && nodes.mayJoin(a, b);
    }

    private void begin(int s, int t, int fuel) {
        if (!nodes.isTerm(s) || !nodes.isTerm(t) || fuel < 0 || fuel > MOST_FUEL) {
            throw new IllegalArgumentException("no such term, or no such fuel");
        }
        nodes.dropPassing();
        reducer.refuel(fuel);
        finder.forgetTypes();
    }

    /** The call had fuel and made no reduction, though neither its term nor its fuel counts. */
    private int refuseUnlooked() {
        reducer.refuel(0);
        return NONE;
    }

    /** Built anew from its marks, so that nothing else of the call stays with it. */
    private int lasting(Marks marks) {
        nodes.dropPassing();
        int type = marks.read(nodes, false);
        nodes.keepPassing();
        return type;
    }

    /**
     * The nodes of all terms, a place for each, parts named by their places. Places below
     * MOST_TERMS are the terms by their numbers; behind them stand the types of defined
     * constants; behind those what the running call makes, dropped when the next one begins.
     */
    private static final class Nodes {
        private int[] kinds = new int[FIRST_PLACES];
        private int[] lefts = new int[FIRST_PLACES];
        private int[] rights = new int[FIRST_PLACES];
        private int[] sizes = new int[FIRST_PLACES];
        private int[] depths = new int[FIRST_PLACES];
        private int madeTerms = 0;
        private int lastingEnd = MOST_TERMS;
        private int end = MOST_TERMS;

        int termCount() {
            return madeTerms;
        }

        boolean isTerm(int t) {
            return t >= 0 && t < madeTerms;
        }

        int kindOf(int n) {
            return n >= 0 && n < kinds.length ? kinds[n] : NONE;
        }

        /** The part a, or the number that a is. */
        int leftOf(int n) {
            return n >= 0 && n < lefts.length ? lefts[n] : NONE;
        }

        int rightOf(int n) {
            return n >= 0 && n < rights.length ? rights[n] : NONE;
        }

        int sizeOf(int n) {
            return n >= 0 && n < sizes.length ? sizes[n] : NONE;
        }

        int depthOf(int n) {
            return n >= 0 && n < depths.length ? depths[n] : NONE;
        }

        boolean mayJoin(int a, int b) {
            return 1 + sizeOf(a) + sizeOf(b) <= MOST_NODES
                    && 1 + Math.max(depthOf(a), depthOf(b)) <= MOST_DEEP;
        }

        boolean isTooMuch(int n) {
            return sizeOf(n) > MOST_NODES || depthOf(n) > MOST_DEEP;
        }

        int addTerm(int kind, int a, int b) {
            if (madeTerms >= MOST_TERMS) {
                return NONE;
            }
            fill(madeTerms, kind, a, b);
            madeTerms++;
            return madeTerms - 1;
        }

        /** The first term that is so, or a new one. */
        int termLike(int kind, int a, int b) {
            for (int t = 0; t < madeTerms; t++) {
                if (kindOf(t) == kind && leftOf(t) == a && rightOf(t) == b) {
                    return t;
                }
            }
            return addTerm(kind, a, b);
        }

        void cutTerms(int count) {
            madeTerms = count;
        }

        int add(int kind, int a, int b) {
            if (end >= kinds.length) {
                grow();
            }
            fill(end, kind, a, b);
            end++;
            return end - 1;
        }

        private void fill(int place, int kind, int a, int b) {
            int length = kinds.length;
            if (place < 0 || place >= length) {
                return;
            }
            kinds[place] = kind;
            lefts[place] = a;
            rights[place] = b;
            sizes[place] = 1;
            depths[place] = 1;
            if (b != NONE && a >= 0 && a < length && b >= 0 && b < length) {
                sizes[place] = 1 + sizes[a] + sizes[b];
                depths[place] = 1 + Math.max(depths[a], depths[b]);
            }
        }

        private void grow() {
            int length = kinds.length * 2;
            if (length > MOST_PLACES) {
                throw new UnsupportedOperationException("too many nodes in one call");
            }
            kinds = Arrays.copyOf(kinds, length);
            lefts = Arrays.copyOf(lefts, length);
            rights = Arrays.copyOf(rights, length);
            sizes = Arrays.copyOf(sizes, length);
            depths = Arrays.copyOf(depths, length);
        }

        void dropPassing() {
            end = lastingEnd;
        }

        void keepPassing() {
            lastingEnd = end;
        }

        /**
         * A term whose variables from 'bound' on become greater by n; or, if x is a term, the
         * variable 'bound' becomes x, raised by as many as bind between, and those beyond it
         * become greater by n. (To raise: no x. To put: n is -1.) What make and TOO MUCH let
         * pass is at most MOST_DEEP deep, and so the recursion ends there, once in t, once in x.
         */
        int changed(int t, int bound, int x, int n) {
            int kind = kindOf(t);
            int a = leftOf(t);
            if (kind == VARIABLE) {
                if (x != NONE && a == bound) {
                    return bound == 0 ? x : changed(x, 0, NONE, bound);
                }
                return a < bound || n == 0 ? t : add(VARIABLE, a + n, NONE);
            }
            if (!hasParts(kind)) {
                return t;
            }
            int b = rightOf(t);
            int newA = changed(a, bound, x, n);
            int newB = changed(b, kind == APPLICATION ? bound : bound + 1, x, n);
            return newA == a && newB == b ? t : add(kind, newA, newB);
        }

        /** A term whose heads down to 'place' stay, with another one at that place. */
        int withHead(int t, int place, int other) {
            if (t == place || kindOf(t) != APPLICATION) {
                return other;
            }
            return add(APPLICATION, withHead(leftOf(t), place, other), rightOf(t));
        }
    }

    /** The constants: of each one the place of its type, and of its body, if it has one. */
    private static final class Constants {
        private final int[] types = new int[MOST_CONSTANTS];
        private final int[] bodies = new int[MOST_CONSTANTS];
        private int made = 0;

        int count() {
            return made;
        }

        boolean isFull() {
            return made >= MOST_CONSTANTS;
        }

        boolean isThere(int c) {
            return c >= 0 && c < made && c < MOST_CONSTANTS;
        }

        int typeAt(int c) {
            return isThere(c) ? types[c] : NONE;
        }

        int bodyAt(int c) {
            return isThere(c) ? bodies[c] : NONE;
        }

        int add(int type, int body) {
            if (made < 0 || made >= MOST_CONSTANTS) {
                return NONE;
            }
            types[made] = type;
            bodies[made] = body;
            made++;
            return made - 1;
        }
    }

    /** Makes the reductions of one call, and counts them. */
    private static final class Reducer {
        private final Nodes nodes;
        private final Constants known;
        private final int[] firsts = new int[MOST_PAIRS];
        private final int[] seconds = new int[MOST_PAIRS];
        private int openPairs = 0;
        private int fuel = 0;
        private int made = 0;

        Reducer(Nodes nodes, Constants known) {
            this.nodes = nodes;
            this.known = known;
        }

        void refuel(int amount) {
            fuel = amount;
            made = 0;
        }

        int madeCount() {
            return made;
        }

        int headForm(int t) {
            int now = t;
            for (int round = 0; round <= MOST_FUEL; round++) {
                int place = nextPlace(now);
                if (place == NONE) {
                    return now;
                }
                if (made >= fuel) {
                    throw new UnsupportedOperationException("one reduction more than fuel");
                }
                int a = nodes.leftOf(place);
                boolean unfolds = nodes.kindOf(place) == CONSTANT;
                int other = unfolds
                        ? known.bodyAt(a)
                        : nodes.changed(nodes.rightOf(a), 0, nodes.rightOf(place), -1);
                now = nodes.withHead(now, place, other);
                if (nodes.isTooMuch(now)) {
                    throw new UnsupportedOperationException("a reduction's term is too large");
                }
                made++;
            }
            throw new UnsupportedOperationException("too many reductions");
        }

        /** The node that the next reduction replaces. */
        private int nextPlace(int t) {
            int head = t;
            int above = NONE;
            for (int i = 0; i < MOST_DEEP && nodes.kindOf(head) == APPLICATION; i++) {
                above = head;
                head = nodes.leftOf(head);
            }
            int kind = nodes.kindOf(head);
            if (kind == FUNCTION) {
                return above;
            }
            boolean unfolds = kind == CONSTANT && known.bodyAt(nodes.leftOf(head)) != NONE;
            return unfolds ? head : NONE;
        }

        /** Not even a term and itself are the same without its reductions. */
        boolean areSame(int s, int t) {
            openPairs = 0;
            open(s, t);
            for (int round = 0; openPairs > 0 && round < MOST_ROUNDS; round++) {
                openPairs--;
                int first = headForm(valueOf(firsts));
                int second = headForm(valueOf(seconds));
                if (!mayBeSame(first, second)) {
                    return false;
                }
                if (hasParts(nodes.kindOf(first))) {
                    openParts(first, second);
                }
            }
            return openPairs == 0;
        }

        private int valueOf(int[] row) {
            return openPairs >= 0 && openPairs < row.length ? row[openPairs] : NONE;
        }

        private boolean mayBeSame(int first, int second) {
            int kind = nodes.kindOf(first);
            if (kind != nodes.kindOf(second)) {
                return false;
            }
            return hasParts(kind) || nodes.leftOf(first) == nodes.leftOf(second);
        }

        /** The pair that is opened last is looked at first: that of the parts a. */
        private void openParts(int first, int second) {
            open(nodes.rightOf(first), nodes.rightOf(second));
            open(nodes.leftOf(first), nodes.leftOf(second));
        }

        private void open(int first, int second) {
            if (openPairs < 0 || openPairs >= MOST_PAIRS) {
                throw new UnsupportedOperationException("too many pairs in one comparison");
            }
            firsts[openPairs] = first;
            seconds[openPairs] = second;
            openPairs++;
        }
    }

    /**
     * Finds types. Its methods call one another down the parts of a term, which is at most
     * MOST_DEEP deep, or make would have refused it.
     */
    private static final class Finder {
        private final Nodes nodes;
        private final Constants known;
        private final Reducer reducer;
        private final int[] types = new int[MOST_DEEP];
        private int typeCount = 0;

        Finder(Nodes nodes, Constants known, Reducer reducer) {
            this.nodes = nodes;
            this.known = known;
            this.reducer = reducer;
        }

        /** A call that threw may have left types of variables here. */
        void forgetTypes() {
            typeCount = 0;
        }

        int typeFound(int t) {
            int a = nodes.leftOf(t);
            int b = nodes.rightOf(t);
            switch (nodes.kindOf(t)) {
                case VARIABLE:
                    return typeOfVariable(a);
                case UNIVERSE:
                    return nodes.add(UNIVERSE, a + 1, NONE);
                case CONSTANT:
                    return known.typeAt(a);
                case PI:
                    return typeOfPi(a, b);
                case FUNCTION:
                    return typeOfFunction(a, b);
                case APPLICATION:
                    return typeOfApplication(a, b);
                default:
                    return NONE;
            }
        }

        /** The level of a term whose type was found. */
        int levelOf(int type) {
            int head = reducer.headForm(type);
            if (nodes.kindOf(head) != UNIVERSE) {
                throw new IllegalStateException("what should be a type is none");
            }
            return nodes.leftOf(head);
        }

        private int typeOfVariable(int n) {
            int place = typeCount - 1 - n;
            if (place < 0 || place >= typeCount || place >= MOST_DEEP) {
                throw new IllegalStateException("no type of this variable is known");
            }
            return nodes.changed(types[place], 0, NONE, n + 1);
        }

        private int typeOfPi(int a, int b) {
            int level = levelOf(typeFound(a));
            open(a);
            int inner = levelOf(typeFound(b));
            typeCount--;
            return nodes.add(UNIVERSE, Math.max(level, inner), NONE);
        }

        private int typeOfFunction(int a, int b) {
            levelOf(typeFound(a));
            open(a);
            int inner = typeFound(b);
            typeCount--;
            return notTooMuch(nodes.add(PI, a, inner));
        }

        private int typeOfApplication(int a, int b) {
            int pi = reducer.headForm(typeFound(a));
            if (nodes.kindOf(pi) != PI) {
                throw new IllegalStateException("what is applied is no function");
            }
            if (!reducer.areSame(typeFound(b), nodes.leftOf(pi))) {
                throw new IllegalStateException("a function is applied to another type than its own");
            }
            return notTooMuch(nodes.changed(nodes.rightOf(pi), 0, b, -1));
        }

        private void open(int type) {
            if (typeCount < 0 || typeCount >= MOST_DEEP) {
                throw new UnsupportedOperationException("too many variables are bound");
            }
            types[typeCount] = type;
            typeCount++;
        }

        private int notTooMuch(int type) {
            if (nodes.isTooMuch(type)) {
                throw new UnsupportedOperationException("a type is too large");
            }
            return type;
        }
    }

    /** The marks of one term: its nodes, itself first, then those of a, then those of b. */
    private static final class Marks {
        private final int[] row = new int[MOST_NODES];
        private int length = 0;
        private int next = 0;

        boolean isEmpty() {
            return length == 0;
        }

        int at(int k) {
            return k >= 0 && k < length && k < MOST_NODES ? row[k] : NONE;
        }

        boolean hasTooGreat(int kind) {
            for (int k = 0; k < length; k++) {
                if (at(k) % SIGN_STEP == kind && at(k) / SIGN_STEP > GREATEST_SIGN) {
                    return true;
                }
            }
            return false;
        }

        int write(Nodes nodes, int t) {
            length = 0;
            writeNode(nodes, t);
            return length;
        }

        /** What is written is at most MOST_DEEP deep, or it was TOO MUCH before. */
        private void writeNode(Nodes nodes, int t) {
            if (length < 0 || length >= MOST_NODES) {
                return;
            }
            int kind = nodes.kindOf(t);
            row[length] = hasParts(kind) ? kind : kind + SIGN_STEP * nodes.leftOf(t);
            length++;
            if (hasParts(kind)) {
                writeNode(nodes, nodes.leftOf(t));
                writeNode(nodes, nodes.rightOf(t));
            }
        }

        /** Makes what was written, as terms or as nodes of the call; NONE if there is no room. */
        int read(Nodes nodes, boolean asTerms) {
            next = 0;
            return readNode(nodes, asTerms);
        }

        private int readNode(Nodes nodes, boolean asTerms) {
            int mark = at(next);
            if (mark == NONE) {
                return NONE;
            }
            next++;
            int kind = mark % SIGN_STEP;
            int a = mark / SIGN_STEP;
            int b = NONE;
            if (hasParts(kind)) {
                a = readNode(nodes, asTerms);
                b = a == NONE ? NONE : readNode(nodes, asTerms);
                if (b == NONE) {
                    return NONE;
                }
            }
            return asTerms ? nodes.termLike(kind, a, b) : nodes.add(kind, a, b);
        }
    }
}

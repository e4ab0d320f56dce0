/** What the tests by hand share: the kinds, the exceptions, and short ways to make terms. */
abstract class TestTerms {
    static final int VARIABLE = 0;
    static final int UNIVERSE = 1;
    static final int PI = 2;
    static final int FUNCTION = 3;
    static final int APPLICATION = 4;
    static final int CONSTANT = 5;
    static final int NONE = TermJudge.NONE;

    static final Class<IllegalArgumentException> NO_SUCH = IllegalArgumentException.class;
    static final Class<IllegalStateException> WRONG = IllegalStateException.class;
    static final Class<UnsupportedOperationException> TOO_MUCH = UnsupportedOperationException.class;

    /** The marks of the RESULT, as far as there are any, joined by blanks. */
    static String marks(TermJudge x) {
        StringBuilder text = new StringBuilder();
        for (int k = 0; x.mark(k) != NONE; k++) {
            text.append(k == 0 ? "" : " ").append(x.mark(k));
        }
        return text.toString();
    }

    static int chain(TermJudge x, int kind, int first, int other, int times) {
        int t = first;
        for (int i = 0; i < times; i++) {
            t = x.make(kind, t, other);
        }
        return t;
    }

    /** f of f of .. of t. */
    static int nested(TermJudge x, int f, int t, int times) {
        int now = t;
        for (int i = 0; i < times; i++) {
            now = x.make(APPLICATION, f, now);
        }
        return now;
    }

    static int function(TermJudge x, int type, int body) {
        return x.make(FUNCTION, type, body);
    }

    static int apply(TermJudge x, int f, int... arguments) {
        int t = f;
        for (int argument : arguments) {
            t = x.make(APPLICATION, t, argument);
        }
        return t;
    }

    static int declared(TermJudge x, int type) {
        return x.make(CONSTANT, x.declare(type, 30), 0);
    }

    static int defined(TermJudge x, int body) {
        return x.make(CONSTANT, x.define(body, 30), 0);
    }

    /**
     * A PI of UNIVERSE 0 alone, with so many nodes (an odd number: joining two terms makes no
     * other), no deeper than it must be; sizes that were made before are used again.
     */
    static int sized(TermJudge x, int nodes, int[] had) {
        if (had[nodes] == 0) {
            int first = nodes / 4 * 2 + 1;
            had[nodes] = 1 + (nodes == 1
                    ? x.make(UNIVERSE, 0, 0)
                    : x.make(PI, sized(x, first, had), sized(x, nodes - 1 - first, had)));
        }
        return had[nodes] - 1;
    }

    static int sized(TermJudge x, int nodes) {
        return sized(x, nodes, new int[60]);
    }
}

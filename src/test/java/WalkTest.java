import java.util.ArrayList;
import java.util.List;
import java.util.TreeMap;

/** Long walks of calls, each answered by the class and by PlainJudge; the answers must agree. */
public final class WalkTest {
    private static final int WALKS = 5000;
    private static final int MOST_CALLS = 512;
    private static final int MOST_IN_A_STEP = 210;
    private static final String[] OPS =
            {"infer", "reduce", "same", "check", "declare", "define", "keep", "typeOf", "term", "make"};

    private final Due due;
    private final TreeMap<String, Integer> tally;
    private final TermJudge x = new TermJudge();
    private final PlainJudge y = new PlainJudge();
    private final Grower grower;
    private final int walk;
    private final List<Integer> typedTerms = new ArrayList<>();
    private boolean hasNumbers = false;
    private int calls = 0;

    private WalkTest(Due due, TreeMap<String, Integer> tally, int walk) {
        this.due = due;
        this.tally = tally;
        this.walk = walk;
        grower = new Grower(y, walk * 7919L + 17);
    }

    public static void main(String[] args) {
        Due due = new Due();
        TreeMap<String, Integer> tally = new TreeMap<>();
        for (int walk = 0; walk < WALKS; walk++) {
            new WalkTest(due, tally, walk).go();
        }
        System.out.println("answers by kind: " + tally);
        for (String why : PlainJudge.REASONS) {
            due.is("walks met TOO MUCH for: " + why, tally.containsKey(why), true);
        }
        for (String op : OPS) {
            due.is("walks met " + op, tally.containsKey(op), true);
        }
        for (String op : List.of("infer", "check", "declare", "define")) {
            due.is("walks met WRONG in " + op, tally.containsKey(op + " throws IllegalStateException"), true);
        }
        for (String op : List.of("infer", "reduce", "same", "check", "define")) {
            due.is("walks met TOO MUCH in " + op, tally.containsKey(op + " throws UnsupportedOperationException"), true);
        }
        due.end("WalkTest");
    }

    private String both(String call, Due.Call mine, Due.Call plain) {
        calls++;
        String want = Due.answerOf(plain);
        due.is("walk " + walk + ": " + call, Due.answerOf(mine), want);
        if (want.equals("throws UnsupportedOperationException")) {
            tally.merge(y.latestReason(), 1, Integer::sum);
        }
        String op = call.substring(0, call.indexOf('('));
        tally.merge(want.startsWith("throws") ? op + " " + want : op, 1, Integer::sum);
        return want;
    }

    private void go() {
        boolean withNumbers = grower.below(2) == 0;
        if (withNumbers) {
            declareNumbers();
        }
        while (calls < MOST_CALLS - MOST_IN_A_STEP) {
            oneStep();
        }
        if (calls > MOST_CALLS) {
            throw new IllegalStateException("a walk of " + calls + " calls");
        }
    }

    /** 0 a type N, 1 N to N, 2 N to N to N, 3 Q of two N, 4 of each N x one of Q (1 x) x. */
    private void declareNumbers() {
        PlainJudge.Tree n = leaf(5, 0);
        PlainJudge.Tree x0 = leaf(0, 0);
        PlainJudge.Tree[] types = {leaf(1, 0), join(2, n, n), join(2, n, join(2, n, n)),
                join(2, n, join(2, n, leaf(1, 0))), join(2, n, apply(3, join(4, leaf(5, 1), x0), x0))};
        for (PlainJudge.Tree type : types) {
            int t = made(type);
            both("declare(" + t + ", 9)", () -> x.declare(t, 9), () -> y.declare(t, 9));
        }
        hasNumbers = true;
    }

    private static PlainJudge.Tree leaf(int kind, int sign) {
        return PlainJudge.Tree.leaf(kind, sign);
    }

    private static PlainJudge.Tree join(int kind, PlainJudge.Tree a, PlainJudge.Tree b) {
        return PlainJudge.Tree.of(kind, a, b);
    }

    /** A constant applied to two terms. */
    private static PlainJudge.Tree apply(int c, PlainJudge.Tree a, PlainJudge.Tree b) {
        return join(4, join(4, leaf(5, c), a), b);
    }

    /** A number in which the variable of the outermost FUNCTION is the least one. */
    private PlainJudge.Tree number(int steps) {
        PlainJudge.Tree v = leaf(0, 0);
        for (int i = 0; i < steps; i++) {
            v = grower.below(3) == 0 ? apply(2, v, grower.below(2) == 0 ? v : leaf(0, 0)) : join(4, leaf(5, 1), v);
        }
        return v;
    }

    /** Terms near the bounds: of types that hang on great numbers, and functions of such. */
    private void great() {
        PlainJudge.Tree n = leaf(5, 0);
        PlainJudge.Tree v = number(grower.below(11));
        PlainJudge.Tree w = grower.below(2) == 0 ? v : number(grower.below(9));
        int way = grower.below(5);
        PlainJudge.Tree body = way == 0 ? v : join(4, leaf(5, 4), v);
        if (way == 1) {
            body = join(3, apply(3, join(4, leaf(5, 1), w), w), body.raise(1, 0));
        }
        if (way == 2) {
            body = join(4, join(3, n, apply(2, leaf(0, 0), leaf(0, 0))), v);
        }
        if (way == 3) {
            body = join(4, join(3, n, number(1 + grower.below(7))), v);
        }
        if (y.terms() < 90 && !body.tooMuch()) {
            ask(made(join(3, n, body)), anyTerm());
            int t = made(body);
            both("reduce(" + t + ", 9)", () -> x.reduce(t, 9), () -> y.reduce(t, 9));
        }
    }

    private void oneStep() {
        int way = grower.below(20);
        if (hasNumbers && way < 4) {
            great();
        } else if (way < 6) {
            typed();
        } else if (way < 8) {
            wild();
        } else if (way < 9) {
            oddMake();
        } else if (way < 11) {
            grown();
        } else {
            ask(anyTerm(), anyTerm());
        }
    }

    /** Mostly one that has a type, if there is any. */
    private int anyTerm() {
        if (typedTerms.isEmpty() || grower.below(4) == 0) {
            return grower.below(y.terms() + 1);
        }
        return typedTerms.get(grower.below(typedTerms.size()));
    }

    /** Joins a term with itself until it is near the bounds, so that its reductions pass them. */
    private void grown() {
        if (y.terms() > 100 || y.terms() == 0) {
            return;
        }
        int t = made(grower.wild(2 + grower.below(8)));
        for (int i = grower.below(6); i > 0 && t >= 0; i--) {
            int kind = 2 + grower.below(3);
            int other = grower.below(2) == 0 ? t : anyTerm();
            int next = grower.below(2) == 0 ? make(kind, t, other) : make(kind, other, t);
            t = next < 0 ? t : next;
        }
        ask(t, anyTerm());
    }

    private void typed() {
        PlainJudge.Tree type = grower.type(List.of(), grower.below(3), 2);
        PlainJudge.Tree term = type == null ? null : grower.term(List.of(), type, 1 + grower.below(7));
        if (term == null || y.terms() > 100) {
            return;
        }
        int t = made(grower.below(8) == 0 ? broken(term) : term);
        int wanted = made(type);
        ask(t, wanted);
        if (!both("infer(" + t + ", 30)", () -> x.infer(t, 30), () -> y.infer(t, 30)).startsWith("throws")) {
            typedTerms.add(t);
        }
    }

    private void wild() {
        if (y.terms() < 100) {
            int t = made(grower.wild(2 + grower.below(12)));
            ask(t, grower.below(y.terms() + 1));
        }
    }

    /** A tree with one part put out of order. */
    private PlainJudge.Tree broken(PlainJudge.Tree t) {
        if (t.whole() || grower.below(3) == 0) {
            return grower.wild(1 + grower.below(2));
        }
        boolean first = grower.below(2) == 0;
        return PlainJudge.Tree.of(t.kind(), first ? broken(t.a()) : t.a(), first ? t.b() : broken(t.b()));
    }

    private int made(PlainJudge.Tree tree) {
        int a = tree.whole() ? tree.sign() : made(tree.a());
        int b = tree.whole() ? grower.below(200) : made(tree.b());
        return make(tree.kind(), a, b);
    }

    private int make(int kind, int a, int b) {
        for (int t = 0; t < y.terms() && grower.below(6) > 0; t++) {
            boolean alike = y.term(t, 0) == kind && y.term(t, 1) == a;
            if (alike && (y.term(t, 2) == b || kind < 2 || kind > 4)) {
                return t;
            }
        }
        String call = "make(" + kind + ", " + a + ", " + b + ")";
        return Integer.parseInt(both(call, () -> x.make(kind, a, b), () -> y.make(kind, a, b)));
    }

    private void oddMake() {
        make(grower.below(8) - 1, grower.below(12) - 1, grower.below(12) - 1);
    }

    private void ask(int s, int t) {
        int fuel = grower.below(2) == 0 ? grower.below(5) : grower.below(40) == 0 ? 31 : 30;
        int way = grower.below(16);
        if (way < 4) {
            both("infer(" + s + ", " + fuel + ")", () -> x.infer(s, fuel), () -> y.infer(s, fuel));
        } else if (way < 6) {
            both("reduce(" + s + ", " + fuel + ")", () -> x.reduce(s, fuel), () -> y.reduce(s, fuel));
        } else if (way < 7) {
            both("same(" + s + ", " + t + ", " + fuel + ")", () -> x.same(s, t, fuel), () -> y.same(s, t, fuel));
        } else if (way < 9) {
            both("check(" + s + ", " + t + ", " + fuel + ")", () -> x.check(s, t, fuel), () -> y.check(s, t, fuel));
        } else if (way < 10) {
            both("declare(" + t + ", " + fuel + ")", () -> x.declare(t, fuel), () -> y.declare(t, fuel));
        } else if (way < 12) {
            both("define(" + s + ", " + fuel + ")", () -> x.define(s, fuel), () -> y.define(s, fuel));
        } else if (way < 13) {
            both("keep()", x::keep, y::keep);
        } else if (way < 14) {
            int c = grower.below(y.constants() + 2) - 1;
            both("typeOf(" + c + ")", () -> x.typeOf(c), () -> y.typeOf(c));
        } else {
            int what = grower.below(7) - 1;
            both("term(" + t + ", " + what + ")", () -> x.term(t, what), () -> y.term(t, what));
        }
        look();
    }

    private void look() {
        both("reduced()", x::reduced, y::reduced);
        if (grower.below(4) > 0) {
            return;
        }
        both("terms()", x::terms, y::terms);
        both("constants()", x::constants, y::constants);
        int c = grower.below(y.constants() + 2) - 1;
        both("hasBody(" + c + ")", () -> x.hasBody(c), () -> y.hasBody(c));
        boolean more = true;
        for (int k = 0; more; k++) {
            int at = k;
            more = !both("mark(" + at + ")", () -> x.mark(at), () -> y.mark(at)).equals("-1");
        }
    }
}

/** For each promise of the document: ordinary calls, the edges that it names, and wrong calls. */
public final class PromiseTest extends TestTerms {
    private final Due due = new Due();

    public static void main(String[] args) {
        PromiseTest t = new PromiseTest();
        t.promise1New();
        t.promise2Make();
        t.promise2Bounds();
        t.promise3Terms();
        t.promise4Term();
        t.promise5InferKinds();
        t.promise5InferApplications();
        t.promise5InferOrder();
        t.promise5InferTooMuch();
        t.promise5InferThrows();
        t.promise6Reduce();
        t.promise6Putting();
        t.promise6Constants();
        t.promise6AllFuel();
        t.promise6TooMuch();
        t.promise7Same();
        t.promise7SameOrder();
        t.promise8Check();
        t.promise9Declare();
        t.promise10Define();
        t.promise11And12Constants();
        t.promise13TypeOf();
        t.promise14Mark();
        t.promise15Keep();
        t.promise15KeepRefuses();
        t.promise16Reduced();
        t.due.end("PromiseTest");
    }

    private void promise1New() {
        TermJudge x = new TermJudge();
        due.is("1 terms", x.terms(), 0);
        due.is("1 constants", x.constants(), 0);
        due.is("1 reduced", x.reduced(), 0);
        due.is("1 mark", x.mark(0), NONE);
        due.is("1 keep", x.keep(), NONE);
        due.is("1 term", x.term(0, 0), NONE);
        due.is("1 hasBody", x.hasBody(0), false);
        due.is("1 typeOf", x.typeOf(0), NONE);
        due.is("1 constant", x.make(CONSTANT, 0, 0), NONE);
        due.is("1 joined", x.make(PI, 0, 0), NONE);
        due.refused("1 infer", () -> x.infer(0, 1), NO_SUCH);
        due.refused("1 reduce", () -> x.reduce(0, 1), NO_SUCH);
        due.refused("1 same", () -> x.same(0, 0, 1), NO_SUCH);
        due.refused("1 check", () -> x.check(0, 0, 1), NO_SUCH);
        due.refused("1 declare", () -> x.declare(0, 1), NO_SUCH);
        due.refused("1 define", () -> x.define(0, 1), NO_SUCH);
        TermJudge other = new TermJudge();
        other.make(VARIABLE, 0, 0);
        due.is("1 objects are apart", x.terms(), 0);
    }

    private void promise2Make() {
        TermJudge x = new TermJudge();
        due.is("2 variable", x.make(VARIABLE, 0, -7), 0);
        due.is("2 variable 9", x.make(VARIABLE, 9, 99), 1);
        due.is("2 universe", x.make(UNIVERSE, 0, Integer.MIN_VALUE), 2);
        due.is("2 universe 9", x.make(UNIVERSE, 9, Integer.MAX_VALUE), 3);
        due.is("2 the same once more", x.make(UNIVERSE, 9, 0), 4);
        int[] wrongSigns = {-1, 10, Integer.MIN_VALUE, Integer.MAX_VALUE};
        for (int a : wrongSigns) {
            due.is("2 variable " + a, x.make(VARIABLE, a, 0), NONE);
            due.is("2 universe " + a, x.make(UNIVERSE, a, 0), NONE);
        }
        int[] wrongKinds = {-1, 6, Integer.MIN_VALUE, Integer.MAX_VALUE};
        for (int kind : wrongKinds) {
            due.is("2 kind " + kind, x.make(kind, 0, 0), NONE);
        }
        int[] wrongTerms = {-1, 5, 120, Integer.MIN_VALUE, Integer.MAX_VALUE};
        for (int kind = PI; kind <= APPLICATION; kind++) {
            for (int t : wrongTerms) {
                due.is("2 kind " + kind + " of " + t, x.make(kind, t, 0), NONE);
                due.is("2 kind " + kind + " of 0 and " + t, x.make(kind, 0, t), NONE);
            }
        }
        due.is("2 no such constant", x.make(CONSTANT, 0, 0), NONE);
        due.is("2 nothing was made", x.terms(), 5);
        due.is("2 a constant", x.declare(2, 0), 0);
        due.is("2 it is there", x.make(CONSTANT, 0, -3), 5);
        due.is("2 the next isn't", x.make(CONSTANT, 1, 0), NONE);
        due.is("2 nor one before", x.make(CONSTANT, -1, 0), NONE);
        due.is("2 pi", x.make(PI, 5, 0), 6);
        due.is("2 function", x.make(FUNCTION, 6, 6), 7);
        due.is("2 application", x.make(APPLICATION, 7, 0), 8);
    }

    private void promise2Bounds() {
        TermJudge x = new TermJudge();
        int n1 = x.make(UNIVERSE, 0, 0);
        int n3 = x.make(PI, n1, n1);
        int n5 = x.make(FUNCTION, n3, n1);
        int n7 = x.make(APPLICATION, n3, n3);
        int n11 = x.make(PI, n7, n3);
        int n13 = x.make(PI, n7, n5);
        int n15 = x.make(PI, n7, n7);
        int n27 = x.make(PI, n15, n11);
        int n29 = x.make(PI, n15, n13);
        int n31 = x.make(PI, n15, n15);
        for (int kind = PI; kind <= APPLICATION; kind++) {
            due.is("2 61 nodes", x.make(kind, n31, n29), NONE);
            due.is("2 61 nodes", x.make(kind, n29, n31), NONE);
        }
        int n59 = x.make(PI, n31, n27);
        due.is("2 59 nodes", x.term(n59, 3), 59);
        due.is("2 more than those", x.make(PI, n59, n1), NONE);
        int deep = chain(x, APPLICATION, n1, n1, 11);
        due.is("2 12 deep", x.term(deep, 4), 12);
        due.is("2 13 deep by a", x.make(APPLICATION, deep, n1), NONE);
        due.is("2 13 deep by b", x.make(FUNCTION, n1, deep), NONE);
        int have = x.terms();
        for (int t = have; t < 120; t++) {
            due.is("2 term " + t, x.make(VARIABLE, t % 10, 0), t);
        }
        due.is("2 no 121st leaf", x.make(VARIABLE, 0, 0), NONE);
        due.is("2 no 121st pi", x.make(PI, 0, 0), NONE);
        due.is("2 120 terms", x.terms(), 120);
        due.is("2 the last one", x.term(119, 0), VARIABLE);
        due.is("2 it is a term", x.reduce(119, 0), 1);
    }

    private void promise3Terms() {
        TermJudge x = new TermJudge();
        x.make(UNIVERSE, 0, 0);
        due.is("3 one", x.terms(), 1);
        x.make(UNIVERSE, 10, 0);
        due.is("3 none was made", x.terms(), 1);
        x.make(UNIVERSE, 0, 0);
        due.is("3 two alike", x.terms(), 2);
        x.make(PI, 0, 1);
        x.infer(2, 0);
        due.is("3 a result is no term", x.terms(), 3);
        x.keep();
        due.is("3 kept", x.terms(), 4);
        x.keep();
        due.is("3 kept before", x.terms(), 4);
    }

    private void promise4Term() {
        TermJudge x = new TermJudge();
        x.make(UNIVERSE, 7, 3);
        x.make(VARIABLE, 9, 3);
        x.declare(0, 0);
        x.make(CONSTANT, 0, 3);
        x.make(PI, 0, 1);
        x.make(FUNCTION, 3, 2);
        x.make(APPLICATION, 1, 4);
        int[][] want = {{1, 7, NONE, 1, 1}, {0, 9, NONE, 1, 1}, {5, 0, NONE, 1, 1}, {2, 0, 1, 3, 2},
                {3, 3, 2, 5, 3}, {4, 1, 4, 7, 4}};
        for (int t = 0; t < want.length; t++) {
            for (int what = 0; what < 5; what++) {
                due.is("4 term(" + t + ", " + what + ")", x.term(t, what), want[t][what]);
            }
            for (int what : new int[] {-1, 5, Integer.MIN_VALUE, Integer.MAX_VALUE}) {
                due.is("4 term(" + t + ", " + what + ")", x.term(t, what), NONE);
            }
        }
        for (int t : new int[] {-1, 6, 119, 120, 121, Integer.MIN_VALUE, Integer.MAX_VALUE}) {
            due.is("4 term(" + t + ", 0)", x.term(t, 0), NONE);
        }
    }

    private void promise5InferKinds() {
        TermJudge x = new TermJudge();
        int u0 = x.make(UNIVERSE, 0, 0);
        int u3 = x.make(UNIVERSE, 3, 0);
        int u9 = x.make(UNIVERSE, 9, 0);
        int v0 = x.make(VARIABLE, 0, 0);
        int v1 = x.make(VARIABLE, 1, 0);
        due.is("5 universe", x.infer(u0, 0), 1);
        due.is("5 is the next one", marks(x), "11");
        x.infer(u9, 0);
        due.is("5 even above 9", marks(x), "101");
        due.refused("5 a free variable", () -> x.infer(v0, 0), WRONG);
        due.is("5 pi", x.infer(x.make(PI, u3, u0), 0), 1);
        due.is("5 of the greater level, a's", marks(x), "41");
        x.infer(x.make(PI, u0, u3), 0);
        due.is("5 of the greater level, b's", marks(x), "41");
        x.infer(x.make(PI, u9, u9), 0);
        due.is("5 level 10", marks(x), "101");
        x.infer(x.make(PI, u0, v0), 0);
        due.is("5 pi whose b is its variable", marks(x), "11");
        due.refused("5 pi to what is no type", () -> x.infer(x.make(PI, u0, function(x, u0, v0)), 9), WRONG);
        due.refused("5 pi from what is no type", () -> x.infer(x.make(PI, function(x, u0, v0), u0), 9), WRONG);
        due.refused("5 pi's a knows not its variable", () -> x.infer(x.make(PI, v0, u0), 9), WRONG);
        due.is("5 function", x.infer(function(x, u0, v0), 0), 3);
        due.is("5 is a pi", marks(x), "2 1 1");
        x.infer(function(x, u0, function(x, v0, v0)), 0);
        due.is("5 types are raised where they are used", marks(x), "2 1 2 0 10");
        x.infer(function(x, u0, function(x, v0, v1)), 0);
        due.is("5 the outer variable", marks(x), "2 1 2 0 1");
        int inner = function(x, u3, function(x, x.make(VARIABLE, 1, 0), x.make(VARIABLE, 0, 0)));
        x.infer(function(x, u0, inner), 0);
        due.is("5 as it was there where it came", marks(x), "2 1 2 31 2 10 20");
        due.refused("5 of what is no type", () -> x.infer(function(x, u0, function(x, function(x, u0, v0), v0)), 9),
                WRONG);
        due.refused("5 one variable too far", () -> x.infer(function(x, u0, v1), 9), WRONG);
        int c0 = declared(x, u0);
        x.infer(c0, 0);
        due.is("5 constant", marks(x), "1");
    }

    private void promise5InferApplications() {
        TermJudge x = new TermJudge();
        int u0 = x.make(UNIVERSE, 0, 0);
        int u1 = x.make(UNIVERSE, 1, 0);
        int v0 = x.make(VARIABLE, 0, 0);
        int n = declared(x, u0);
        int zero = declared(x, n);
        int next = declared(x, x.make(PI, n, n));
        int p = declared(x, x.make(PI, n, u0));
        int given = declared(x, x.make(PI, n, apply(x, p, v0)));
        due.is("5 application", x.infer(apply(x, next, zero), 0), 1);
        due.is("5 its type", marks(x), "5");
        due.is("5 one that hangs on a value", x.infer(apply(x, given, apply(x, next, zero)), 0), 5);
        due.is("5 the value is put as it is", marks(x), "4 35 4 25 15");
        due.refused("5 another type than its own", () -> x.infer(apply(x, next, n), 9), WRONG);
        due.refused("5 no function", () -> x.infer(apply(x, zero, zero), 9), WRONG);
        due.refused("5 a universe is none", () -> x.infer(apply(x, u0, u0), 9), WRONG);
        int big = function(x, u1, function(x, v0, v0));
        due.is("5 a universe as a type", x.infer(apply(x, big, u0), 0), 3);
        due.is("5 put into the type", marks(x), "2 1 1");
        due.refused("5 universes do not contain one another", () -> x.infer(apply(x, big, n), 9), WRONG);
        int alias = x.make(CONSTANT, x.define(n, 0), 0);
        int same = function(x, alias, apply(x, next, v0));
        due.is("5 the same after a reduction", x.infer(same, 1), 3);
        due.is("5 the function's type keeps its a", marks(x), "2 55 5");
        due.is("5 one was needed", x.reduced(), 1);
        due.refused("5 and was not there", () -> x.infer(same, 0), TOO_MUCH);
        int kinds = x.make(CONSTANT, x.define(x.make(PI, n, n), 0), 0);
        int hidden = declared(x, kinds);
        due.is("5 brought to a pi", x.infer(apply(x, hidden, zero), 1), 1);
        due.is("5 by one reduction", x.reduced(), 1);
        due.is("5 a level by a reduction", x.infer(x.make(PI, kinds, u0), 0), 1);
    }

    private void promise5InferOrder() {
        TermJudge x = new TermJudge();
        int u0 = x.make(UNIVERSE, 0, 0);
        int free = x.make(VARIABLE, 7, 0);
        int v0 = x.make(VARIABLE, 0, 0);
        int n = declared(x, u0);
        int alias = x.make(CONSTANT, x.define(n, 0), 0);
        int hidden = x.make(CONSTANT, x.define(x.make(PI, n, n), 0), 0);
        int f = declared(x, hidden);
        int ofAlias = declared(x, alias);
        due.refused("5 a's head form before b's type", () -> x.infer(apply(x, f, free), 0), TOO_MUCH);
        due.refused("5 else b's type", () -> x.infer(apply(x, f, free), 1), WRONG);
        due.refused("5 a's type before all", () -> x.infer(apply(x, free, apply(x, f, f)), 0), WRONG);
        due.refused("5 no pi before b's type", () -> x.infer(apply(x, n, apply(x, f, f)), 0), WRONG);
        due.refused("5 b is brought to its head form", () -> x.infer(apply(x, f, ofAlias), 1), TOO_MUCH);
        due.is("5 with fuel", x.infer(apply(x, f, ofAlias), 2), 1);
        int redexType = apply(x, function(x, x.make(UNIVERSE, 1, 0), v0), u0);
        int needs = declared(x, redexType);
        due.refused("5 level of a first", () -> x.infer(x.make(PI, needs, free), 0), TOO_MUCH);
        due.refused("5 then b", () -> x.infer(x.make(PI, needs, free), 1), WRONG);
        due.refused("5 b first where a needs none", () -> x.infer(x.make(PI, free, needs), 0), WRONG);
        due.refused("5 function: level of a first", () -> x.infer(function(x, needs, free), 0), TOO_MUCH);
        due.is("5 a level after a reduction", x.infer(x.make(PI, needs, needs), 2), 1);
        due.is("5 two were needed", x.reduced(), 2);
        due.is("5 universe 0", marks(x), "1");
    }

    private void promise5InferTooMuch() {
        TermJudge x = new TermJudge();
        int u0 = x.make(UNIVERSE, 0, 0);
        int v0 = x.make(VARIABLE, 0, 0);
        int n = declared(x, u0);
        int zero = declared(x, n);
        int next = declared(x, x.make(PI, n, n));
        int q = declared(x, x.make(PI, n, x.make(PI, n, u0)));
        int join = declared(x, x.make(PI, n, x.make(PI, n, n)));
        int given = declared(x, x.make(PI, n, apply(x, q, v0, v0)));
        int deep10 = nested(x, next, zero, 9);
        int deep11 = apply(x, next, deep10);
        due.is("5 a type 12 deep", x.infer(apply(x, given, deep10), 0), 41);
        due.refused("5 a type 13 deep", () -> x.infer(apply(x, given, deep11), 0), TOO_MUCH);
        due.is("5 the term itself is not too deep", x.term(x.terms() - 1, 4), 12);
        due.is("5 the result stays", x.mark(0), APPLICATION);
        due.refused("5 a pi 13 deep", () -> x.infer(function(x, n, apply(x, given, deep10)), 0), TOO_MUCH);
        int n5 = apply(x, join, zero, zero);
        int n13 = apply(x, join, n5, n5);
        int n27 = apply(x, join, n13, apply(x, join, apply(x, join, zero, zero), apply(x, next, zero)));
        due.is("5 27 nodes", x.term(n27, 3), 27);
        due.is("5 a type of 57 nodes", x.infer(apply(x, given, n27), 0), 57);
        due.refused("5 a type of 61 nodes", () -> x.infer(apply(x, given, apply(x, next, n27)), 0), TOO_MUCH);
        due.is("5 a pi of 59 nodes", x.infer(function(x, n, apply(x, given, n27)), 0), 59);
        int typed = apply(x, q, zero, zero);
        due.refused("5 a pi of 63 nodes", () -> x.infer(function(x, typed, apply(x, given, n27)), 0), TOO_MUCH);
    }

    private void promise5InferThrows() {
        TermJudge x = new TermJudge();
        int u0 = x.make(UNIVERSE, 0, 0);
        int free = x.make(VARIABLE, 0, 0);
        x.infer(u0, 0);
        for (int fuel : new int[] {-1, 31, Integer.MIN_VALUE, Integer.MAX_VALUE}) {
            due.refused("5 fuel " + fuel, () -> x.infer(u0, fuel), NO_SUCH);
        }
        for (int t : new int[] {-1, 2, 120, Integer.MIN_VALUE, Integer.MAX_VALUE}) {
            due.refused("5 term " + t, () -> x.infer(t, 0), NO_SUCH);
        }
        due.refused("5 no such fuel before WRONG", () -> x.infer(free, 31), NO_SUCH);
        due.refused("5 wrong", () -> x.infer(free, 30), WRONG);
        due.is("5 the result stays", marks(x), "11");
        due.is("5 the terms stay", x.terms(), 2);
        due.refused("5 wrong within a function", () -> x.infer(function(x, u0, x.make(PI, free, x.make(VARIABLE, 5, 0))), 9),
                WRONG);
        due.refused("5 its types are forgotten", () -> x.infer(free, 30), WRONG);
    }

    private void promise6Reduce() {
        TermJudge x = new TermJudge();
        int u0 = x.make(UNIVERSE, 0, 0);
        int v0 = x.make(VARIABLE, 0, 0);
        int v1 = x.make(VARIABLE, 1, 0);
        int id = function(x, u0, v0);
        int first = function(x, u0, function(x, u0, v1));
        due.is("6 a function is in head form", x.reduce(id, 0), 3);
        due.is("6 and is the result", marks(x), "3 1 0");
        due.is("6 one reduction", x.reduce(apply(x, id, v1), 1), 1);
        due.is("6 free variables stay", marks(x), "10");
        due.is("6 two", x.reduce(apply(x, first, v0, v1), 2), 1);
        due.is("6 the first argument", marks(x), "0");
        due.is("6 counted", x.reduced(), 2);
        x.reduce(apply(x, first, v0), 1);
        due.is("6 raised below a function", marks(x), "3 1 10");
        int inner = function(x, apply(x, id, u0), apply(x, id, v0));
        due.is("6 parts are left alone", x.reduce(inner, 0), 11);
        due.is("6 also below a variable", x.reduce(apply(x, v0, apply(x, id, v1)), 0), 7);
        due.is("6 not below a pi", x.reduce(x.make(PI, apply(x, id, u0), v0), 0), 7);
        due.is("6 a pi applied stays", x.reduce(apply(x, x.make(PI, u0, u0), u0), 0), 5);
        due.is("6 the head first, arguments unreduced", x.reduce(apply(x, id, apply(x, v1, apply(x, id, v0))), 1), 7);
        due.is("6 they stay so", marks(x), "4 10 4 3 1 0 0");
        for (int fuel : new int[] {-1, 31, Integer.MIN_VALUE, Integer.MAX_VALUE}) {
            due.refused("6 fuel " + fuel, () -> x.reduce(u0, fuel), NO_SUCH);
        }
        for (int t : new int[] {-1, x.terms(), Integer.MIN_VALUE, Integer.MAX_VALUE}) {
            due.refused("6 term " + t, () -> x.reduce(t, 0), NO_SUCH);
        }
        due.is("6 the result stays", x.mark(2), 4);
    }

    private void promise6Putting() {
        TermJudge x = new TermJudge();
        int u0 = x.make(UNIVERSE, 0, 0);
        int[] v = new int[10];
        for (int i = 0; i < 10; i++) {
            v[i] = x.make(VARIABLE, i, 0);
        }
        int body = function(x, v[0], x.make(PI, v[1], apply(x, v[2], v[3], v[0], v[1])));
        x.reduce(apply(x, function(x, u0, body), v[4]), 1);
        due.is("6 put by place, others less by 1", marks(x), "3 40 2 50 4 4 4 60 20 0 10");
        x.reduce(apply(x, function(x, u0, function(x, u0, v[1])), v[9]), 1);
        due.is("6 raised above 9", marks(x), "3 1 100");
        int argument = function(x, v[0], apply(x, v[0], v[1]));
        x.reduce(apply(x, function(x, u0, function(x, u0, v[1])), argument), 1);
        due.is("6 raising leaves what is bound", marks(x), "3 1 3 10 4 0 20");
        x.reduce(apply(x, function(x, v[3], v[1]), u0), 1);
        due.is("6 the function's own type is outside", marks(x), "0");
        x.reduce(apply(x, function(x, u0, x.make(PI, v[0], v[0])), v[1]), 1);
        due.is("6 a lies outside, b inside", marks(x), "2 10 0");
    }

    private void promise6Constants() {
        TermJudge x = new TermJudge();
        int u0 = x.make(UNIVERSE, 0, 0);
        int u1 = x.make(UNIVERSE, 1, 0);
        int v0 = x.make(VARIABLE, 0, 0);
        int bare = declared(x, u0);
        int named = x.make(CONSTANT, x.define(function(x, u1, v0), 0), 0);
        int again = x.make(CONSTANT, x.define(named, 0), 0);
        due.is("6 a constant without body stays", x.reduce(bare, 0), 1);
        due.is("6 one with a body becomes it", x.reduce(named, 1), 3);
        due.is("6 twice", x.reduce(again, 2), 3);
        due.is("6 both counted", x.reduced(), 2);
        due.is("6 applied", x.reduce(apply(x, again, bare), 3), 1);
        due.is("6 three", x.reduced(), 3);
        due.is("6 the rest", marks(x), "5");
        due.refused("6 one short", () -> x.reduce(apply(x, again, bare), 2), TOO_MUCH);
        due.is("6 two were made", x.reduced(), 2);
        due.is("6 a stuck head", x.reduce(apply(x, bare, again), 0), 3);
        due.refused("6 no fuel", () -> x.reduce(named, 0), TOO_MUCH);
        due.is("6 the result stays", marks(x), "4 5 25");
    }

    private void promise6AllFuel() {
        TermJudge x = new TermJudge();
        int u1 = x.make(UNIVERSE, 1, 0);
        int v0 = x.make(VARIABLE, 0, 0);
        int named = x.make(CONSTANT, x.define(function(x, u1, v0), 0), 0);
        int again = x.make(CONSTANT, x.define(named, 0), 0);
        int ten = apply(x, again, again, again, again, again, again, again, again, again, again, v0);
        due.is("6 three for each of ten", x.reduce(ten, 30), 1);
        due.is("6 all fuel is used", x.reduced(), 30);
        due.is("6 head form then", marks(x), "0");
        due.refused("6 not with one less", () -> x.reduce(ten, 29), TOO_MUCH);
        due.is("6 same with all fuel", x.same(ten, v0, 30), true);
        due.refused("6 one more on the other side", () -> x.same(ten, named, 30), TOO_MUCH);
    }

    private void promise6TooMuch() {
        TermJudge x = new TermJudge();
        int u0 = x.make(UNIVERSE, 0, 0);
        int v0 = x.make(VARIABLE, 0, 0);
        int twice = function(x, u0, apply(x, v0, v0));
        due.refused("6 for ever", () -> x.reduce(apply(x, twice, twice), 30), TOO_MUCH);
        due.is("6 as much as fuel", x.reduced(), 30);
        due.refused("6 fewer", () -> x.reduce(apply(x, twice, twice), 7), TOO_MUCH);
        due.is("6 as much as there was", x.reduced(), 7);
        int deep10 = chain(x, APPLICATION, v0, v0, 9);
        int deep11 = x.make(APPLICATION, deep10, v0);
        int wrapped = function(x, u0, apply(x, u0, v0));
        due.is("6 12 deep", x.reduce(apply(x, wrapped, deep11), 1), 23);
        int wrappedTwice = function(x, u0, apply(x, u0, apply(x, u0, v0)));
        due.refused("6 13 deep", () -> x.reduce(apply(x, wrappedTwice, deep11), 1), TOO_MUCH);
        due.is("6 it isn't counted", x.reduced(), 0);
        due.is("6 the result stays", x.mark(1), 1);
        int wide = function(x, u0, x.make(PI, v0, x.make(VARIABLE, 1, 0)));
        int n27 = x.make(PI, chain(x, PI, v0, v0, 6), chain(x, PI, v0, v0, 6));
        int n29 = x.make(PI, n27, v0);
        int n31 = x.make(PI, n29, v0);
        due.is("6 29 nodes", x.term(n29, 3), 29);
        due.is("6 59 nodes", x.reduce(apply(x, wide, n29), 1), 59);
        due.refused("6 63 nodes", () -> x.reduce(apply(x, wide, n31), 1), TOO_MUCH);
        int n3 = x.make(PI, v0, v0);
        int n5 = x.make(PI, n3, v0);
        due.is("6 the whole term counts: 59", x.reduce(apply(x, wide, n27, n3), 1), 59);
        due.refused("6 the whole term counts: 61", () -> x.reduce(apply(x, wide, n27, n5), 1), TOO_MUCH);
        int lost = function(x, u0, u0);
        due.is("6 a term may become small", x.reduce(apply(x, lost, n31), 1), 1);
    }

    private void promise7Same() {
        TermJudge x = new TermJudge();
        int u0 = x.make(UNIVERSE, 0, 0);
        int u1 = x.make(UNIVERSE, 1, 0);
        int v0 = x.make(VARIABLE, 0, 0);
        int v1 = x.make(VARIABLE, 1, 0);
        int c0 = declared(x, u0);
        int c1 = declared(x, u0);
        int[] leaves = {u0, u1, v0, v1, c0, c1};
        for (int s : leaves) {
            for (int t : leaves) {
                due.is("7 same(" + s + ", " + t + ")", x.same(s, t, 0), s == t);
            }
        }
        due.is("7 two alike", x.same(u0, x.make(UNIVERSE, 0, 0), 0), true);
        int[] joined = new int[3];
        for (int kind = PI; kind <= APPLICATION; kind++) {
            joined[kind - PI] = x.make(kind, c0, v1);
            due.is("7 like parts", x.same(joined[kind - PI], x.make(kind, c0, v1), 0), true);
            due.is("7 other a", x.same(joined[kind - PI], x.make(kind, c1, v1), 0), false);
            due.is("7 other b", x.same(joined[kind - PI], x.make(kind, c0, v0), 0), false);
        }
        due.is("7 other kind", x.same(joined[0], joined[1], 0), false);
        due.is("7 other kind", x.same(joined[1], joined[2], 0), false);
        due.is("7 other kind", x.same(joined[2], c0, 0), false);
        int id = function(x, u0, v0);
        due.is("7 after a reduction", x.same(apply(x, id, v1), v1, 1), true);
        due.is("7 of either", x.same(v1, apply(x, id, v1), 1), true);
        due.is("7 below", x.same(x.make(PI, u0, apply(x, id, v1)), x.make(PI, apply(x, id, u0), v1), 2), true);
        due.is("7 both counted", x.reduced(), 2);
        due.is("7 no type is found", x.same(apply(x, u0, u0), apply(x, u0, u0), 0), true);
        due.is("7 a function is not what it applies", x.same(function(x, u0, apply(x, v1, v0)), v0, 9), false);
        x.infer(u0, 0);
        x.same(id, id, 0);
        due.is("7 the result stays", marks(x), "11");
        for (int fuel : new int[] {-1, 31, Integer.MIN_VALUE, Integer.MAX_VALUE}) {
            due.refused("7 fuel " + fuel, () -> x.same(u0, u0, fuel), NO_SUCH);
        }
        for (int t : new int[] {-1, x.terms(), Integer.MIN_VALUE, Integer.MAX_VALUE}) {
            due.refused("7 s " + t, () -> x.same(t, u0, 0), NO_SUCH);
            due.refused("7 t " + t, () -> x.same(u0, t, 0), NO_SUCH);
        }
    }

    private void promise7SameOrder() {
        TermJudge x = new TermJudge();
        int u0 = x.make(UNIVERSE, 0, 0);
        int u1 = x.make(UNIVERSE, 1, 0);
        int v0 = x.make(VARIABLE, 0, 0);
        int id = function(x, u0, v0);
        int redex = apply(x, id, u0);
        due.refused("7 a term and itself need their reductions", () -> x.same(redex, redex, 1), TOO_MUCH);
        due.is("7 one was made", x.reduced(), 1);
        due.is("7 two are enough", x.same(redex, redex, 2), true);
        int loop = apply(x, function(x, u0, apply(x, v0, v0)), function(x, u0, apply(x, v0, v0)));
        due.is("7 it ends with the first that isn't so", x.same(x.make(PI, u0, loop), x.make(PI, u1, loop), 30), false);
        due.is("7 without a reduction", x.reduced(), 0);
        due.refused("7 a before b", () -> x.same(x.make(PI, loop, u0), x.make(PI, loop, u1), 30), TOO_MUCH);
        int leftFirst = x.make(PI, x.make(PI, u0, u1), loop);
        due.is("7 deeper parts of a before b", x.same(leftFirst, x.make(PI, x.make(PI, u0, u0), loop), 30), false);
        due.refused("7 the second one too before they are compared", () -> x.same(u0, loop, 30), TOO_MUCH);
        due.is("7 other kinds of head forms", x.same(redex, id, 1), false);
        due.is("7 one reduction", x.reduced(), 1);
        int c = x.make(CONSTANT, x.define(u0, 0), 0);
        due.refused("7 constants with bodies become these", () -> x.same(c, c, 1), TOO_MUCH);
        due.is("7 what they become is the same", x.same(c, u0, 1), true);
    }

    private void promise8Check() {
        TermJudge x = new TermJudge();
        int u0 = x.make(UNIVERSE, 0, 0);
        int u1 = x.make(UNIVERSE, 1, 0);
        int u9 = x.make(UNIVERSE, 9, 0);
        int v0 = x.make(VARIABLE, 0, 0);
        int n = declared(x, u0);
        int zero = declared(x, n);
        int alias = x.make(CONSTANT, x.define(n, 0), 0);
        due.is("8 has it", x.check(zero, n, 0), true);
        due.is("8 hasn't", x.check(n, n, 0), false);
        due.is("8 universe", x.check(u0, u1, 0), true);
        due.is("8 not a greater one", x.check(u0, u9, 0), false);
        due.is("8 above 9 within", x.check(u9, u9, 0), false);
        due.is("8 function", x.check(function(x, u0, v0), x.make(PI, u0, u0), 0), true);
        due.is("8 after a reduction", x.check(zero, alias, 1), true);
        due.is("8 it was made", x.reduced(), 1);
        due.refused("8 fuel", () -> x.check(zero, alias, 0), TOO_MUCH);
        due.refused("8 no type", () -> x.check(zero, zero, 9), WRONG);
        due.refused("8 a wrong type", () -> x.check(zero, v0, 9), WRONG);
        due.refused("8 a wrong term", () -> x.check(v0, n, 9), WRONG);
        int redex = apply(x, function(x, u0, v0), n);
        int hidden = declared(x, apply(x, function(x, u1, v0), u0));
        due.is("8 a type by a reduction of its type", x.check(zero, hidden, 1), false);
        due.refused("8 the type before the term", () -> x.check(v0, hidden, 0), TOO_MUCH);
        due.refused("8 and its WRONG too", () -> x.check(apply(x, hidden, hidden), v0, 0), WRONG);
        due.is("8 the term itself is not reduced", x.check(redex, u0, 0), true);
        int aliasToo = x.make(CONSTANT, x.define(u0, 0), 0);
        int ofAlias = declared(x, aliasToo);
        due.is("8 what was found is the first one", x.check(ofAlias, u0, 2), true);
        due.is("8 reduced once", x.reduced(), 1);
        x.infer(u0, 0);
        x.check(zero, n, 0);
        due.is("8 the result stays", marks(x), "11");
        due.is("8 no constant comes", x.constants(), 6);
        for (int fuel : new int[] {-1, 31, Integer.MIN_VALUE, Integer.MAX_VALUE}) {
            due.refused("8 fuel " + fuel, () -> x.check(v0, v0, fuel), NO_SUCH);
        }
        for (int t : new int[] {-1, x.terms(), Integer.MIN_VALUE, Integer.MAX_VALUE}) {
            due.refused("8 t " + t, () -> x.check(t, v0, 0), NO_SUCH);
            due.refused("8 type " + t, () -> x.check(v0, t, 0), NO_SUCH);
        }
    }

    private void promise9Declare() {
        TermJudge x = new TermJudge();
        int u0 = x.make(UNIVERSE, 0, 0);
        int v0 = x.make(VARIABLE, 0, 0);
        int id = function(x, u0, v0);
        due.is("9 the first one", x.declare(u0, 0), 0);
        int n = x.make(CONSTANT, 0, 0);
        due.is("9 of a constant's type", x.declare(n, 0), 1);
        int zero = x.make(CONSTANT, 1, 0);
        due.refused("9 no type", () -> x.declare(zero, 9), WRONG);
        due.refused("9 no type either", () -> x.declare(id, 9), WRONG);
        due.refused("9 free variables", () -> x.declare(v0, 9), WRONG);
        due.refused("9 fuel", () -> x.declare(u0, 31), NO_SUCH);
        due.refused("9 fuel", () -> x.declare(u0, -1), NO_SUCH);
        due.refused("9 no such term", () -> x.declare(-1, 0), NO_SUCH);
        due.refused("9 no such term", () -> x.declare(x.terms(), 0), NO_SUCH);
        due.is("9 none of these came", x.constants(), 2);
        int redex = apply(x, function(x, x.make(UNIVERSE, 1, 0), v0), u0);
        due.is("9 a type is not reduced", x.declare(redex, 0), 2);
        due.is("9 but kept as it is", x.typeOf(2), 5);
        int ofRedex = x.make(CONSTANT, 2, 0);
        due.refused("9 its level needs a reduction", () -> x.declare(ofRedex, 0), TOO_MUCH);
        due.is("9 with it", x.declare(ofRedex, 1), 3);
        due.is("9 the reduction", x.reduced(), 1);
        due.is("9 universe 9", x.declare(x.make(UNIVERSE, 9, 0), 0), 4);
        due.is("9 no body", x.hasBody(4), false);
        x.infer(u0, 0);
        for (int c = 5; c < 16; c++) {
            due.is("9 constant " + c, x.declare(n, 0), c);
        }
        due.is("9 the result stays", marks(x), "11");
        due.is("9 no 17th", x.declare(n, 0), NONE);
        due.is("9 nothing else is looked at: term", x.declare(-1, 0), NONE);
        due.is("9 nothing else is looked at: fuel", x.declare(n, 31), NONE);
        due.is("9 nothing else is looked at: type", x.declare(v0, 0), NONE);
        due.is("9 sixteen", x.constants(), 16);
        due.is("9 the last one", x.term(x.make(CONSTANT, 15, 0), 1), 15);
        due.is("9 no more", x.make(CONSTANT, 16, 0), NONE);
    }

    private void promise10Define() {
        TermJudge x = new TermJudge();
        int u0 = x.make(UNIVERSE, 0, 0);
        int u9 = x.make(UNIVERSE, 9, 0);
        int v0 = x.make(VARIABLE, 0, 0);
        int id = function(x, u0, v0);
        due.is("10 the first one", x.define(id, 0), 0);
        due.is("10 its type", x.typeOf(0), 3);
        due.is("10 its type's marks", marks(x), "2 1 1");
        due.is("10 it has a body", x.hasBody(0), true);
        due.is("10 which it becomes", x.reduce(x.make(CONSTANT, 0, 0), 1), 3);
        due.is("10 that is the body", marks(x), "3 1 0");
        due.is("10 a universe above 9", x.define(u9, 0), NONE);
        due.is("10 also within", x.define(function(x, u0, u9), 0), NONE);
        due.is("10 also in a type's b", x.define(function(x, u9, u9), 0), NONE);
        due.is("10 universe 9 itself may be", x.define(function(x, u9, v0), 0), 1);
        due.is("10 and universe 8's type", x.define(x.make(UNIVERSE, 8, 0), 0), 2);
        due.refused("10 wrong", () -> x.define(v0, 9), WRONG);
        due.refused("10 WRONG is found before", () -> x.define(apply(x, u9, u9), 9), WRONG);
        due.refused("10 fuel", () -> x.define(id, 31), NO_SUCH);
        due.refused("10 fuel", () -> x.define(id, -1), NO_SUCH);
        due.refused("10 no such term", () -> x.define(-1, 0), NO_SUCH);
        due.refused("10 no such term", () -> x.define(x.terms(), 0), NO_SUCH);
        due.is("10 three stand", x.constants(), 3);
        int n = declared(x, u0);
        int zero = declared(x, n);
        int alias = x.make(CONSTANT, x.define(n, 0), 0);
        int call = apply(x, function(x, alias, v0), zero);
        due.refused("10 too much", () -> x.define(call, 0), TOO_MUCH);
        due.is("10 with fuel", x.define(call, 1), 6);
        x.typeOf(6);
        due.is("10 the type that was found", marks(x), "55");
        int user = function(x, n, call);
        due.is("10 a type that was put together", x.define(user, 1), 7);
        for (int c = 8; c < 16; c++) {
            x.infer(user, 9);
            due.is("10 constant " + c, x.define(function(x, n, user), 9), c);
            due.is("10 the result stays", marks(x), "2 35 55");
        }
        for (int c = 7; c < 16; c++) {
            x.typeOf(c);
            due.is("10 type " + c + " lasts", marks(x), c == 7 ? "2 35 55" : "2 35 2 35 55");
        }
        due.is("10 no 17th", x.define(id, 0), NONE);
        due.is("10 nothing else is looked at: term", x.define(-1, 0), NONE);
        due.is("10 nothing else is looked at: fuel", x.define(id, 31), NONE);
        due.is("10 nothing else is looked at: body", x.define(v0, 0), NONE);
    }

    private void promise11And12Constants() {
        TermJudge x = new TermJudge();
        int u0 = x.make(UNIVERSE, 0, 0);
        x.declare(u0, 0);
        due.is("11 one", x.constants(), 1);
        x.define(u0, 0);
        due.is("11 two", x.constants(), 2);
        x.define(x.make(UNIVERSE, 9, 0), 0);
        due.is("11 a refused one", x.constants(), 2);
        x.make(CONSTANT, 0, 0);
        due.is("11 a term is none", x.constants(), 2);
        due.is("12 declared", x.hasBody(0), false);
        due.is("12 defined", x.hasBody(1), true);
        for (int c : new int[] {-1, 2, 15, 16, Integer.MIN_VALUE, Integer.MAX_VALUE}) {
            due.is("12 constant " + c, x.hasBody(c), false);
        }
    }

    private void promise13TypeOf() {
        TermJudge x = new TermJudge();
        int u0 = x.make(UNIVERSE, 0, 0);
        int u2 = x.make(UNIVERSE, 2, 0);
        x.declare(x.make(PI, u2, u0), 0);
        x.define(u2, 0);
        due.is("13 declared", x.typeOf(0), 3);
        due.is("13 its marks", marks(x), "2 21 1");
        due.is("13 defined", x.typeOf(1), 1);
        due.is("13 its mark", marks(x), "31");
        for (int c : new int[] {-1, 2, 15, 16, Integer.MIN_VALUE, Integer.MAX_VALUE}) {
            due.is("13 constant " + c, x.typeOf(c), NONE);
        }
        due.is("13 the result stays", marks(x), "31");
        x.reduce(u0, 0);
        x.typeOf(0);
        x.reduce(u0, 3);
        due.is("13 another result", marks(x), "1");
        x.typeOf(0);
        due.is("13 it is there again", marks(x), "2 21 1");
        due.is("13 it can be kept", x.term(x.keep(), 3), 3);
    }

    private void promise14Mark() {
        TermJudge x = new TermJudge();
        int u4 = x.make(UNIVERSE, 4, 0);
        int v3 = x.make(VARIABLE, 3, 0);
        x.declare(u4, 0);
        x.declare(u4, 0);
        int c1 = x.make(CONSTANT, 1, 0);
        int pi = x.make(PI, x.make(APPLICATION, u4, v3), x.make(FUNCTION, c1, u4));
        x.reduce(pi, 0);
        int[] want = {2, 4, 41, 30, 3, 15, 41};
        for (int k = 0; k < want.length; k++) {
            due.is("14 mark " + k, x.mark(k), want[k]);
        }
        for (int k : new int[] {-1, 7, 59, 60, 61, Integer.MIN_VALUE, Integer.MAX_VALUE}) {
            due.is("14 mark " + k, x.mark(k), NONE);
        }
        x.reduce(u4, 0);
        due.is("14 a smaller result", marks(x), "41");
        due.is("14 nothing of the greater one", x.mark(3), NONE);
        int wide = u4;
        for (int i = 0; i < 4; i++) {
            wide = x.make(PI, wide, wide);
        }
        int odd = x.make(PI, x.make(PI, x.make(PI, u4, u4), x.make(PI, u4, u4)), x.make(PI, u4, u4));
        int n27 = x.make(PI, x.term(wide, 1), odd);
        due.is("14 the greatest result", x.reduce(x.make(PI, wide, n27), 0), 59);
        due.is("14 its last mark", x.mark(58), 41);
        due.is("14 none behind", x.mark(59), NONE);
    }

    private void promise15Keep() {
        TermJudge x = new TermJudge();
        int u0 = x.make(UNIVERSE, 0, 0);
        int copy = x.make(UNIVERSE, 0, 0);
        int v0 = x.make(VARIABLE, 0, 0);
        x.reduce(copy, 0);
        due.is("15 the first one alike", x.keep(), u0);
        int pi = x.make(PI, copy, copy);
        x.reduce(pi, 0);
        due.is("15 parts are the first ones, so it is another", x.keep(), 4);
        due.is("15 its a", x.term(4, 1), u0);
        due.is("15 its b", x.term(4, 2), u0);
        due.is("15 once more", x.keep(), 4);
        int u1 = x.make(UNIVERSE, 1, 0);
        x.declare(u0, 0);
        x.infer(function(x, u1, function(x, v0, v0)), 0);
        due.is("15 what was found", marks(x), "2 11 2 0 10");
        int have = x.terms();
        due.is("15 a, b, then itself", x.keep(), have + 2);
        due.is("15 variable 1 was made", x.term(have, 0), VARIABLE);
        due.is("15 it is variable 1", x.term(have, 1), 1);
        due.is("15 the inner pi", x.term(have + 1, 0), PI);
        due.is("15 its a", x.term(have + 1, 1), v0);
        due.is("15 its b", x.term(have + 1, 2), have);
        due.is("15 the outer pi", x.term(have + 2, 0), PI);
        due.is("15 of 5 nodes", x.term(have + 2, 3), 5);
        due.is("15 4 deep", x.term(have + 2, 4), 3);
        due.is("15 the result stays", marks(x), "2 11 2 0 10");
        due.is("15 there now", x.keep(), have + 2);
        due.is("15 none came", x.terms(), have + 3);
        TermJudge y = new TermJudge();
        int first = y.make(UNIVERSE, 0, 0);
        int f = function(y, first, y.make(APPLICATION, y.make(VARIABLE, 4, 0), y.make(VARIABLE, 0, 0)));
        y.reduce(apply(y, f, y.make(VARIABLE, 7, 0)), 1);
        due.is("15 a before b", y.keep(), 8);
        due.is("15 made for a", y.term(7, 1), 3);
        due.is("15 what stood for b", y.term(8, 2), 5);
        y.declare(first, 0);
        y.reduce(y.make(CONSTANT, 0, 0), 0);
        due.is("15 a constant", y.keep(), 9);
    }

    private void promise15KeepRefuses() {
        TermJudge x = new TermJudge();
        due.is("15 no result", x.keep(), NONE);
        int u9 = x.make(UNIVERSE, 9, 0);
        int v9 = x.make(VARIABLE, 9, 0);
        int v1 = x.make(VARIABLE, 1, 0);
        due.is("15 a call that threw leaves none", Due.answerOf(() -> x.infer(v9, 0)), "throws IllegalStateException");
        due.is("15 still no result", x.keep(), NONE);
        x.infer(u9, 0);
        due.is("15 universe 10", x.keep(), NONE);
        x.infer(function(x, u9, u9), 0);
        due.is("15 universe 10 within", x.keep(), NONE);
        x.reduce(apply(x, function(x, u9, function(x, u9, v1)), v9), 1);
        due.is("15 variable 10", marks(x), "3 91 100");
        int have = x.terms();
        due.is("15 it can't be kept", x.keep(), NONE);
        due.is("15 nothing was made", x.terms(), have);
        int v2 = x.make(VARIABLE, 2, 0);
        int body = apply(x, v1, x.make(PI, v2, v1));
        x.reduce(apply(x, function(x, u9, body), u9), 1);
        due.is("15 five nodes", marks(x), "4 0 2 10 91");
        while (x.terms() < 118) {
            x.make(UNIVERSE, 5, 0);
        }
        due.is("15 two places for three", x.keep(), NONE);
        due.is("15 then none is made", x.terms(), 118);
        due.is("15 the places are free", x.make(VARIABLE, 0, 0), 118);
        due.is("15 one for two", x.keep(), NONE);
        x.make(VARIABLE, 8, 0);
        due.is("15 full", x.keep(), NONE);
        x.reduce(body, 0);
        due.is("15 what is there needs no place", x.keep(), body);
        TermJudge y = new TermJudge();
        int u0 = y.make(UNIVERSE, 0, 0);
        int w1 = y.make(VARIABLE, 1, 0);
        y.reduce(apply(y, function(y, u0, apply(y, w1, w1)), u0), 1);
        while (y.terms() < 118) {
            y.make(UNIVERSE, 5, 0);
        }
        due.is("15 two places for two", y.keep(), 119);
        due.is("15 now it is full", y.terms(), 120);
    }

    private void promise16Reduced() {
        TermJudge x = new TermJudge();
        int u0 = x.make(UNIVERSE, 0, 0);
        int u1 = x.make(UNIVERSE, 1, 0);
        int v0 = x.make(VARIABLE, 0, 0);
        int id = function(x, u1, v0);
        int redex = apply(x, id, u0);
        x.reduce(apply(x, id, redex), 9);
        due.is("16 reduce", x.reduced(), 2);
        x.make(UNIVERSE, 0, 0);
        x.keep();
        x.typeOf(0);
        x.mark(0);
        due.is("16 calls without fuel", x.reduced(), 2);
        due.refused("16 no such term", () -> x.reduce(-1, 9), NO_SUCH);
        due.refused("16 no such fuel", () -> x.infer(u0, 31), NO_SUCH);
        due.is("16 these change nothing", x.reduced(), 2);
        due.refused("16 wrong", () -> x.infer(v0, 9), WRONG);
        due.is("16 none before it was WRONG", x.reduced(), 0);
        due.is("16 same", x.same(redex, redex, 9), true);
        due.is("16 two", x.reduced(), 2);
        int ofRedex = declared(x, redex);
        due.is("16 declare", x.reduced(), 0);
        due.refused("16 one, then WRONG", () -> x.infer(x.make(PI, ofRedex, v0), 9), WRONG);
        due.is("16 the one", x.reduced(), 1);
        due.refused("16 one, then TOO MUCH", () -> x.same(redex, redex, 1), TOO_MUCH);
        due.is("16 the one too", x.reduced(), 1);
        x.check(ofRedex, u0, 9);
        due.is("16 check", x.reduced(), 1);
        x.define(x.make(PI, ofRedex, ofRedex), 9);
        due.is("16 define", x.reduced(), 2);
        x.define(x.make(UNIVERSE, 9, 0), 9);
        due.is("16 a define that is refused", x.reduced(), 0);
        while (x.constants() < 16) {
            x.declare(u0, 0);
        }
        x.same(redex, redex, 9);
        due.is("16 two again", x.reduced(), 2);
        x.declare(redex, 9);
        due.is("16 a declare that finds 16 there made none", x.reduced(), 0);
        x.same(redex, redex, 9);
        x.define(redex, 9);
        due.is("16 and so a define", x.reduced(), 0);
    }
}

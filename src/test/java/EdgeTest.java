/**
 * For each sentence of the document that names a boundary of terms, constants or the RESULT, a
 * test of its own, which stands behind the sentence. FuelTest has those of fuel and of refusals.
 */
public final class EdgeTest extends TestTerms {
    private static final int[] FAR = {Integer.MIN_VALUE, -121, -1, 120, 1000, Integer.MAX_VALUE};

    private final Due due = new Due();

    public static void main(String[] args) {
        EdgeTest t = new EdgeTest();
        t.upTo512Calls();
        t.kinds0To5();
        t.signs0To9();
        t.partsThatAreTerms();
        t.constantsThatAreThere();
        t.bForJoiningKindsAlone();
        t.atMost120Terms();
        t.atMost60Nodes();
        t.atMost12Deep();
        t.nodesAsOftenAsTheyLieThere();
        t.noSuchTermOrWhat();
        t.variablesBeyondAllAreFree();
        t.raisedByAsManyAsBindBetween();
        t.putBesideItself();
        t.lessBy1();
        t.lessBy1InAnApplicationsType();
        t.bindsInItsBAlone();
        t.otherHeadsStay();
        t.universesAbove9();
        t.levelsThatAreNone();
        t.applicationsThatAreWrong();
        t.sameEndsWithTheFirstThatIsnt();
        t.sixteenConstants();
        t.nothingElseIsLookedAt();
        t.defineRefusesUniversesAbove9();
        t.defineTakesVariablesAbove9();
        t.noSuchConstant();
        t.marksOfTheResultAlone();
        t.keepWithoutResult();
        t.keepSignsUpTo9();
        t.keepNeedsRoomForAll();
        t.keepFindsTheFirst();
        t.due.end("EdgeTest");
    }

    /** FUNCTIONs of UNIVERSE 0, or PIs, so many around a term. */
    private static int around(TermJudge x, int kind, int times, int body) {
        int type = x.make(UNIVERSE, 0, 0);
        int t = body;
        for (int i = 0; i < times; i++) {
            t = x.make(kind, type, t);
        }
        return t;
    }

    private static int functions(TermJudge x, int times, int body) {
        return around(x, FUNCTION, times, body);
    }

    /** "An object is used for at most 512 calls after it has been made." */
    private void upTo512Calls() {
        TermJudge x = new TermJudge();
        int u1 = x.make(UNIVERSE, 1, 0);
        int redex = apply(x, function(x, u1, x.make(VARIABLE, 0, 0)), x.make(UNIVERSE, 0, 0));
        int calls = 5;
        for (; calls < 510; calls++) {
            due.is("call " + calls, x.reduce(redex, 1), 1);
        }
        due.is("call 511", x.infer(redex, 0), 1);
        due.is("call 512", x.mark(0), 11);
    }

    /** "NONE if the kind isn't 0 .. 5". */
    private void kinds0To5() {
        TermJudge x = new TermJudge();
        x.make(UNIVERSE, 0, 0);
        x.declare(0, 0);
        for (int kind = -3; kind <= 20; kind++) {
            int want = kind >= 0 && kind <= 5 ? x.terms() : NONE;
            due.is("kind " + kind, x.make(kind, 0, 0), want);
        }
        for (int kind : FAR) {
            due.is("kind " + kind, x.make(kind, 0, 0), NONE);
        }
        due.is("one term a kind", x.terms(), 7);
    }

    /** "0 VARIABLE a (0 .. 9), 1 UNIVERSE a (0 .. 9)". */
    private void signs0To9() {
        TermJudge x = new TermJudge();
        for (int kind = VARIABLE; kind <= UNIVERSE; kind++) {
            for (int a = -3; a <= 20; a++) {
                int want = a >= 0 && a <= 9 ? x.terms() : NONE;
                due.is("kind " + kind + " of " + a, x.make(kind, a, 0), want);
            }
            for (int a : FAR) {
                due.is("kind " + kind + " of " + a, x.make(kind, a, 0), NONE);
            }
        }
        due.is("ten each", x.terms(), 20);
    }

    /** "2 PI of the terms a and b, 3 FUNCTION of .., 4 APPLICATION of ..": NONE if "a or b isn't as told". */
    private void partsThatAreTerms() {
        for (int kind = PI; kind <= APPLICATION; kind++) {
            TermJudge x = new TermJudge();
            due.is("no term is there", x.make(kind, 0, 0), NONE);
            x.make(UNIVERSE, 0, 0);
            x.make(UNIVERSE, 0, 0);
            due.is("b would be itself", x.make(kind, 0, 2), NONE);
            due.is("a would be itself", x.make(kind, 2, 0), NONE);
            for (int far : FAR) {
                due.is("kind " + kind + " of 1 and " + far, x.make(kind, 1, far), NONE);
                due.is("kind " + kind + " of " + far + " and 1", x.make(kind, far, 1), NONE);
                due.is("kind " + kind + " of " + far + " twice", x.make(kind, far, far), NONE);
            }
            due.is("the last term as both", x.make(kind, 1, 1), 2);
            due.is("the first and the last one", x.make(kind, 0, 2), 3);
            due.is("the last and the first one", x.make(kind, 3, 0), 4);
        }
    }

    /** "a CONSTANT must be there". */
    private void constantsThatAreThere() {
        TermJudge x = new TermJudge();
        int u0 = x.make(UNIVERSE, 0, 0);
        for (int c = 0; c <= 16; c++) {
            due.is("constant " + c + " isn't there", x.make(CONSTANT, c, 0), NONE);
            due.is("it comes", x.declare(u0, 0), c < 16 ? c : NONE);
            due.is("now it is there", x.make(CONSTANT, c, 0), c < 16 ? c + 1 : NONE);
        }
        for (int far : FAR) {
            due.is("constant " + far, x.make(CONSTANT, far, 0), NONE);
        }
    }

    /** "b is looked at for kinds 2 to 4 alone". */
    private void bForJoiningKindsAlone() {
        TermJudge x = new TermJudge();
        x.make(UNIVERSE, 0, 0);
        x.declare(0, 0);
        for (int kind : new int[] {VARIABLE, UNIVERSE, CONSTANT}) {
            for (int far : FAR) {
                int t = x.make(kind, 0, far);
                due.is("kind " + kind + " with b " + far, t, x.terms() - 1);
                due.is("its b is none", x.term(t, 2), NONE);
            }
        }
    }

    /** "TERMS have numbers 0, 1, .. in the order of making, at most 120"; NONE if "120 are there". */
    private void atMost120Terms() {
        for (int kind = VARIABLE; kind <= CONSTANT; kind++) {
            TermJudge x = new TermJudge();
            x.make(UNIVERSE, 0, 0);
            x.declare(0, 0);
            for (int t = 1; t < 119; t++) {
                due.is("term " + t, x.make(VARIABLE, 3, 0), t);
            }
            due.is("the 120th one, kind " + kind, x.make(kind, 0, 0), 119);
            due.is("it is of this kind", x.term(119, 0), kind);
            due.is("no 121st one, kind " + kind, x.make(kind, 0, 0), NONE);
            due.is("nor of another kind", x.make(UNIVERSE, 9, 0), NONE);
            due.is("120 are there", x.terms(), 120);
            due.is("term 120 isn't", x.term(120, 0), NONE);
        }
    }

    /** "A term has at most 60 nodes"; NONE if "it would have too many nodes". */
    private void atMost60Nodes() {
        TermJudge x = new TermJudge();
        int[] had = new int[60];
        for (int kind = PI; kind <= APPLICATION; kind++) {
            for (int a : new int[] {1, 27, 29, 31, 57}) {
                int most = x.make(kind, sized(x, a, had), sized(x, 58 - a, had));
                due.is("59 nodes with a of " + a, x.term(most, 3), 59);
            }
            for (int a : new int[] {1, 29, 31, 59}) {
                due.is("61 nodes with a of " + a, x.make(kind, sized(x, a, had), sized(x, 60 - a, had)), NONE);
            }
            due.is("63 nodes", x.make(kind, sized(x, 31, had), sized(x, 31, had)), NONE);
            due.is("119 nodes", x.make(kind, sized(x, 59, had), sized(x, 59, had)), NONE);
        }
    }

    /** "and is at most 12 deep"; NONE if it would "be too deep". */
    private void atMost12Deep() {
        TermJudge x = new TermJudge();
        int leaf = x.make(UNIVERSE, 0, 0);
        for (int kind = PI; kind <= APPLICATION; kind++) {
            int byA = leaf;
            int byB = leaf;
            for (int deep = 2; deep <= 12; deep++) {
                byA = x.make(kind, byA, leaf);
                byB = x.make(kind, leaf, byB);
                due.is("so deep by a", x.term(byA, 4), deep);
                due.is("so deep by b", x.term(byB, 4), deep);
            }
            int both = x.make(kind, x.term(byA, 1), x.term(byB, 2));
            due.is("12 deep by both", x.term(both, 4), 12);
            due.is("13 deep by a", x.make(kind, byA, leaf), NONE);
            due.is("13 deep by b", x.make(kind, leaf, byB), NONE);
            due.is("13 deep by both", x.make(kind, byA, byB), NONE);
        }
    }

    /** "itself, and those of its parts a and b, as often as they lie there"; "one more than the deeper part". */
    private void nodesAsOftenAsTheyLieThere() {
        TermJudge x = new TermJudge();
        int t = x.make(VARIABLE, 0, 0);
        due.is("a leaf is one node", x.term(t, 3), 1);
        due.is("and one deep", x.term(t, 4), 1);
        for (int deep = 2; deep <= 5; deep++) {
            t = x.make(deep % 3 + PI, t, t);
            due.is("parts twice", x.term(t, 3), (1 << deep) - 1);
            due.is("depth once", x.term(t, 4), deep);
        }
        due.is("63 nodes in 6 terms", x.make(PI, t, t), NONE);
        due.is("the deeper part is a", x.term(x.make(PI, t, 0), 4), 6);
        due.is("the deeper part is b", x.term(x.make(PI, 0, t), 4), 6);
    }

    /** "NONE if there is no such term or what." */
    private void noSuchTermOrWhat() {
        TermJudge x = new TermJudge();
        for (int what = -1; what <= 5; what++) {
            due.is("no terms at all", x.term(0, what), NONE);
        }
        x.make(VARIABLE, 7, 0);
        x.make(FUNCTION, 0, 0);
        for (int what = -3; what <= 20; what++) {
            int want = what == 0 ? VARIABLE : what == 1 ? 7 : what == 3 || what == 4 ? 1 : NONE;
            due.is("a leaf's " + what, x.term(0, what), want);
            due.is("what a term that isn't there has", x.term(2, what), NONE);
        }
        for (int far : FAR) {
            due.is("term " + far, x.term(far, 3), NONE);
            due.is("what " + far, x.term(1, far), NONE);
        }
    }

    /** "those beyond all are FREE"; "none is known: WRONG"; constants have "terms without free variables". */
    private void variablesBeyondAllAreFree() {
        for (int binding = 0; binding <= 11; binding++) {
            for (int n = 0; n <= 9; n++) {
                if (n < binding) {
                    aBoundVariable(binding, n);
                } else {
                    aFreeVariable(binding, n);
                }
            }
        }
    }

    private void aBoundVariable(int binding, int n) {
        TermJudge x = new TermJudge();
        int variable = x.make(VARIABLE, n, 0);
        int f = functions(x, binding, variable);
        int pi = around(x, PI, binding, variable);
        String name = "variable " + n + " of " + binding;
        due.is(name, x.infer(f, 0), 2 * binding + 1);
        due.is(name + " is of universe 0", x.mark(2 * binding), 1);
        due.is(name + " in a PI", x.infer(pi, 0), 1);
        due.is(name + " in a body", x.define(f, 0), 0);
        due.is(name + " in a type", x.declare(pi, 0), 1);
    }

    private void aFreeVariable(int binding, int n) {
        TermJudge x = new TermJudge();
        int variable = x.make(VARIABLE, n, 0);
        int f = functions(x, binding, variable);
        int pi = around(x, PI, binding, variable);
        String name = "variable " + n + " beyond " + binding;
        due.refused(name, () -> x.infer(f, 30), WRONG);
        due.refused(name + " in a PI", () -> x.infer(pi, 30), WRONG);
        due.refused(name + " in a body", () -> x.define(f, 30), WRONG);
        due.refused(name + " in a type", () -> x.declare(pi, 30), WRONG);
        due.refused(name + " in a type that is checked", () -> x.check(f, pi, 30), WRONG);
        due.is(name + " stays without a type", x.reduce(f, 0), 2 * binding + 1);
        due.is(name + " stays as it is", x.mark(2 * binding), 10 * n);
    }

    /** "the variable that was bound there becomes x, raised by as many as bind between". */
    private void raisedByAsManyAsBindBetween() {
        for (int between = 0; between <= 9; between++) {
            TermJudge x = new TermJudge();
            int f = functions(x, between + 1, x.make(VARIABLE, between, 0));
            int argument = function(x, x.make(VARIABLE, 9, 0), x.make(VARIABLE, 0, 0));
            due.is("it is put", x.reduce(apply(x, f, x.make(VARIABLE, 9, 0)), 1), 2 * between + 1);
            due.is("variable 9 below " + between, x.mark(2 * between), 10 * (9 + between));
            due.is("another one is put", x.reduce(apply(x, f, argument), 1), 2 * between + 3);
            due.is("raised where it is free", x.mark(2 * between + 1), 10 * (9 + between));
            due.is("not where it is bound", x.mark(2 * between + 2), 0);
        }
    }

    /** The same sentence, where the part beside the variable is the very term that is put. */
    private void putBesideItself() {
        TermJudge x = new TermJudge();
        int u0 = x.make(UNIVERSE, 0, 0);
        int v0 = x.make(VARIABLE, 0, 0);
        int v1 = x.make(VARIABLE, 1, 0);
        int closed = x.make(PI, u0, u0);
        for (int kind = PI; kind <= APPLICATION; kind++) {
            int inB = kind == APPLICATION ? v0 : v1;
            x.reduce(apply(x, function(x, u0, x.make(kind, v0, closed)), closed), 1);
            due.is("put as a", marks(x), kind + " 2 1 1 2 1 1");
            x.reduce(apply(x, function(x, u0, x.make(kind, closed, inB)), closed), 1);
            due.is("put as b", marks(x), kind + " 2 1 1 2 1 1");
            x.reduce(apply(x, function(x, u0, x.make(kind, v0, inB)), closed), 1);
            due.is("put as both", marks(x), kind + " 2 1 1 2 1 1");
        }
    }

    /** "variables that are free in that PI or FUNCTION become less by 1". */
    private void lessBy1() {
        for (int between = 0; between <= 8; between++) {
            for (int n = 0; n <= 9; n++) {
                TermJudge x = new TermJudge();
                int f = functions(x, between + 1, x.make(VARIABLE, n, 0));
                x.reduce(apply(x, f, x.make(UNIVERSE, 5, 0)), 1);
                int want = n < between ? 10 * n : n == between ? 51 : 10 * (n - 1);
                due.is("variable " + n + " with " + between + " between", x.mark(2 * between), want);
            }
        }
    }

    /** The same sentence, where "the type is the b of the PI, the application's b being put for the variable". */
    private void lessBy1InAnApplicationsType() {
        TermJudge x = new TermJudge();
        int u0 = x.make(UNIVERSE, 0, 0);
        int v0 = x.make(VARIABLE, 0, 0);
        int v1 = x.make(VARIABLE, 1, 0);
        int v2 = x.make(VARIABLE, 2, 0);
        int used = function(x, v1, apply(x, v1, v0));
        int one = function(x, u0, function(x, x.make(PI, v0, v1), used));
        due.is("a type A, a function from A to A, an a: one call", x.infer(one, 0), 9);
        due.is("variable 1 of the PI is A", marks(x), "2 1 2 2 0 10 2 10 20");
        int usedBehind = function(x, v2, apply(x, v1, v0));
        int further = function(x, u0, function(x, u0, function(x, x.make(PI, v1, v1), usedBehind)));
        due.is("types A and B, a function from A to B, an a", x.infer(further, 0), 11);
        due.is("variable 1 of the PI is B", marks(x), "2 1 2 1 2 2 10 10 2 20 20");
        int toPi = x.make(PI, v0, x.make(PI, v0, v2));
        int deeper = function(x, u0, function(x, toPi, function(x, v1, apply(x, v1, v0))));
        due.refused("PI A (PI of an a ..) is no type", () -> x.infer(deeper, 0), WRONG);
        int toBoth = x.make(PI, v0, x.make(PI, v1, v2));
        int both = function(x, u0, function(x, toBoth, function(x, v1, apply(x, v1, v0))));
        due.is("a function of two", x.infer(both, 0), 13);
        due.is("one A is left", marks(x), "2 1 2 2 0 2 10 20 2 10 2 20 30");
    }

    /** "A PI and a FUNCTION BIND a variable in b": not in a, and nowhere outside. */
    private void bindsInItsBAlone() {
        TermJudge x = new TermJudge();
        int u0 = x.make(UNIVERSE, 0, 0);
        int u1 = x.make(UNIVERSE, 1, 0);
        int v0 = x.make(VARIABLE, 0, 0);
        int v1 = x.make(VARIABLE, 1, 0);
        int id = function(x, u0, v0);
        int pi = x.make(PI, u0, v0);
        due.refused("behind a FUNCTION", () -> x.infer(apply(x, id, v0), 0), WRONG);
        due.refused("behind two", () -> x.infer(apply(x, function(x, u0, id), v0), 0), WRONG);
        due.refused("behind a PI", () -> x.infer(apply(x, function(x, u1, pi), v0), 0), WRONG);
        due.refused("in a FUNCTION's a", () -> x.infer(function(x, v0, u0), 0), WRONG);
        due.refused("in a PI's a", () -> x.infer(x.make(PI, v0, u0), 0), WRONG);
        due.refused("in the b around a PI", () -> x.infer(x.make(PI, pi, v1), 0), WRONG);
        due.refused("in the term of a check", () -> x.check(v0, pi, 0), WRONG);
        due.refused("in the type of a check", () -> x.check(id, v0, 0), WRONG);
        int doubled = function(x, u1, x.make(PI, v0, v1));
        due.is("the outer one again, behind an inner one", x.infer(function(x, u1, apply(x, doubled, v0)), 0), 3);
        due.is("so it is in a PI", x.infer(x.make(PI, u1, apply(x, doubled, v0)), 0), 1);
        due.is("and where a PI lies in both", x.infer(function(x, u0, x.make(PI, pi, v1)), 0), 3);
    }

    /** "Otherwise there is none; then the term is in its HEAD FORM." */
    private void otherHeadsStay() {
        TermJudge x = new TermJudge();
        int u0 = x.make(UNIVERSE, 0, 0);
        int v0 = x.make(VARIABLE, 0, 0);
        int redex = apply(x, function(x, u0, v0), v0);
        int[] heads = {u0, v0, x.make(PI, redex, redex), declared(x, u0)};
        for (int head : heads) {
            int nodes = x.term(head, 3);
            due.is("a head alone", x.reduce(head, 0), nodes);
            due.is("applied", x.reduce(apply(x, head, redex), 0), nodes + 6);
            due.is("applied twice", x.reduce(apply(x, head, redex, redex), 0), nodes + 12);
            due.is("no reduction", x.reduced(), 0);
        }
        due.is("a FUNCTION that isn't applied", x.reduce(function(x, redex, redex), 0), 11);
        due.is("one that is a part b", x.reduce(apply(x, v0, function(x, redex, redex)), 0), 13);
        int body = defined(x, u0);
        due.is("a CONSTANT with a body as a part b", x.reduce(apply(x, v0, body), 0), 3);
        due.is("as the part a of a PI", x.reduce(x.make(PI, body, body), 0), 3);
        due.is("as a head", x.reduce(apply(x, body, body), 1), 3);
        due.is("its body stands there", marks(x), "4 1 15");
    }

    /** "(A UNIVERSE may be above 9 here.)" */
    private void universesAbove9() {
        TermJudge x = new TermJudge();
        int u9 = x.make(UNIVERSE, 9, 0);
        int v0 = x.make(VARIABLE, 0, 0);
        due.is("of universe 9", x.infer(u9, 0), 1);
        due.is("is universe 10", x.mark(0), 101);
        due.is("a level 10 in a PI", x.infer(x.make(PI, u9, u9), 0), 1);
        due.is("its universe", x.mark(0), 101);
        due.is("a level 10 in a FUNCTION", x.infer(function(x, u9, v0), 0), 3);
        due.is("that is found", marks(x), "2 91 91");
        due.is("a type of level 10", x.declare(u9, 0), 0);
        due.is("of level 10 by a PI", x.declare(x.make(PI, u9, v0), 0), 1);
        due.is("checked against it", x.check(u9, u9, 0), false);
        int takes = function(x, x.make(PI, u9, u9), v0);
        due.is("an argument's type of level 10", x.infer(apply(x, takes, function(x, u9, v0)), 0), 3);
        due.refused("universe 10 is not the same as 9", () -> x.infer(apply(x, function(x, u9, v0), u9), 0), WRONG);
    }

    /** "that must be UNIVERSE n (n is the level), otherwise it's WRONG". */
    private void levelsThatAreNone() {
        TermJudge x = new TermJudge();
        int u0 = x.make(UNIVERSE, 0, 0);
        int zero = declared(x, declared(x, u0));
        int id = function(x, u0, x.make(VARIABLE, 0, 0));
        for (int none : new int[] {zero, id, x.make(VARIABLE, 9, 0), apply(x, u0, u0)}) {
            due.refused("a of a PI", () -> x.infer(x.make(PI, none, u0), 30), WRONG);
            due.refused("b of a PI", () -> x.infer(x.make(PI, u0, none), 30), WRONG);
            due.refused("a of a FUNCTION", () -> x.infer(function(x, none, u0), 30), WRONG);
            due.refused("a type that is checked", () -> x.check(u0, none, 30), WRONG);
            due.refused("a type that is declared", () -> x.declare(none, 30), WRONG);
        }
        due.is("b of a FUNCTION needs no level", x.infer(function(x, u0, zero), 0), 3);
        due.is("nor does a body", x.define(id, 0), 2);
    }

    /** "it must be a PI, otherwise it's WRONG"; "which must be the SAME as the a of this PI, otherwise WRONG". */
    private void applicationsThatAreWrong() {
        TermJudge x = new TermJudge();
        int u0 = x.make(UNIVERSE, 0, 0);
        int u1 = x.make(UNIVERSE, 1, 0);
        int n = declared(x, u0);
        int zero = declared(x, n);
        int next = declared(x, x.make(PI, n, n));
        for (int none : new int[] {zero, n, u0, x.make(PI, n, n), apply(x, next, zero)}) {
            due.refused("no PI is the type of " + none, () -> x.infer(apply(x, none, zero), 30), WRONG);
        }
        for (int other : new int[] {n, u0, next, x.make(PI, n, n)}) {
            due.refused("not of type n: " + other, () -> x.infer(apply(x, next, other), 30), WRONG);
        }
        due.is("of type n", x.infer(apply(x, next, zero), 0), 1);
        int id = function(x, u1, x.make(VARIABLE, 0, 0));
        due.is("of type universe 1", x.infer(apply(x, id, u0), 0), 1);
        due.refused("of universe 2", () -> x.infer(apply(x, id, u1), 30), WRONG);
        due.refused("of universe 0", () -> x.infer(apply(x, id, n), 30), WRONG);
    }

    /** "(It ends with the first that isn't so.)" */
    private void sameEndsWithTheFirstThatIsnt() {
        TermJudge x = new TermJudge();
        int u0 = x.make(UNIVERSE, 0, 0);
        int v0 = x.make(VARIABLE, 0, 0);
        int twice = function(x, u0, apply(x, v0, v0));
        int endless = apply(x, twice, twice);
        for (int kind = PI; kind <= APPLICATION; kind++) {
            int head = kind == APPLICATION ? x.make(VARIABLE, 1, 0) : u0;
            int s = x.make(kind, head, endless);
            int t = x.make(kind, v0, endless);
            due.is("other parts a", x.same(s, t, 30), false);
            due.is("the parts b are not reduced", x.reduced(), 0);
            due.refused("like parts a", () -> x.same(s, s, 30), TOO_MUCH);
            due.is("other kinds", x.same(s, u0, 30), false);
            due.is("no part is reduced", x.reduced(), 0);
        }
        due.is("of other kinds too", x.same(x.make(PI, u0, endless), function(x, u0, endless), 30), false);
        due.is("none of theirs", x.reduced(), 0);
    }

    /** "CONSTANTS 0 .. 15, in the order of making"; "NONE if 16 are there". */
    private void sixteenConstants() {
        for (int way = 0; way < 2; way++) {
            TermJudge x = new TermJudge();
            int u0 = x.make(UNIVERSE, 0, 0);
            for (int c = 0; c < 16; c++) {
                due.is("before", x.constants(), c);
                boolean declares = c % 2 == way;
                due.is("constant " + c, declares ? x.declare(u0, 0) : x.define(u0, 0), c);
                due.is("its body", x.hasBody(c), !declares);
            }
            due.is("no 17th is declared", x.declare(u0, 0), NONE);
            due.is("nor defined", x.define(u0, 0), NONE);
            due.is("16 are there", x.constants(), 16);
            for (int c = 0; c < 16; c++) {
                due.is("type of " + c, x.typeOf(c), 1);
                due.is("is", x.mark(0), c % 2 == way ? 1 : 11);
            }
            due.is("the last one can be used", x.reduce(x.make(CONSTANT, 15, 0), 1), 1);
        }
    }

    /** "NONE if 16 are there (nothing else is looked at then)". */
    private void nothingElseIsLookedAt() {
        TermJudge x = new TermJudge();
        int u0 = x.make(UNIVERSE, 0, 0);
        int u9 = x.make(UNIVERSE, 9, 0);
        int free = x.make(VARIABLE, 0, 0);
        int redex = apply(x, function(x, x.make(UNIVERSE, 1, 0), free), u0);
        int needs = declared(x, redex);
        while (x.constants() < 15) {
            x.declare(u0, 0);
        }
        due.refused("with 15 there a term is looked at", () -> x.declare(-1, 0), NO_SUCH);
        due.refused("and fuel", () -> x.define(u0, 31), NO_SUCH);
        due.refused("and what is WRONG", () -> x.define(free, 30), WRONG);
        due.refused("and what is TOO MUCH", () -> x.declare(needs, 0), TOO_MUCH);
        x.declare(u0, 0);
        x.infer(u9, 0);
        for (int t : new int[] {u0, u9, free, needs, -1, 120, Integer.MIN_VALUE, Integer.MAX_VALUE}) {
            for (int fuel : new int[] {0, 30, -1, 31, Integer.MIN_VALUE, Integer.MAX_VALUE}) {
                due.is("declare(" + t + ", " + fuel + ")", x.declare(t, fuel), NONE);
                due.is("define(" + t + ", " + fuel + ")", x.define(t, fuel), NONE);
            }
        }
        due.is("the result stays", marks(x), "101");
        due.is("the constants stay", x.constants(), 16);
    }

    /** NONE if "a mark of that type is a UNIVERSE above 9". */
    private void defineRefusesUniversesAbove9() {
        TermJudge x = new TermJudge();
        int u0 = x.make(UNIVERSE, 0, 0);
        int u8 = x.make(UNIVERSE, 8, 0);
        int u9 = x.make(UNIVERSE, 9, 0);
        int[] fine = {u8, x.make(PI, u8, u8), function(x, u9, u8), function(x, u9, x.make(VARIABLE, 0, 0))};
        int[] above = {u9, x.make(PI, u9, u0), x.make(PI, u0, u9), function(x, u0, u9), function(x, u9, u9),
                function(x, u0, function(x, u0, u9))};
        for (int c = 0; c < fine.length; c++) {
            due.is("9 at the most", x.define(fine[c], 0), c);
        }
        x.infer(u0, 0);
        for (int body : above) {
            due.is("one above 9", x.define(body, 0), NONE);
            due.is("no constant comes", x.constants(), fine.length);
            due.is("the result stays", marks(x), "11");
        }
        due.is("the next one", x.define(u0, 0), fine.length);
        due.is("universe 9 is a declared type", x.declare(u9, 0), fine.length + 1);
    }

    /** A UNIVERSE above 9 alone is refused: a VARIABLE may be above 9 in a defined constant's type. */
    private void defineTakesVariablesAbove9() {
        TermJudge x = new TermJudge();
        int u0 = x.make(UNIVERSE, 0, 0);
        int inner = functions(x, 9, x.make(VARIABLE, 9, 0));
        int body = function(x, u0, function(x, x.make(VARIABLE, 0, 0), inner));
        due.is("12 deep", x.term(body, 4), 12);
        due.is("its type is found", x.infer(body, 0), 23);
        due.is("it ends with variable 10", x.mark(22), 100);
        due.is("which can't be kept", x.keep(), NONE);
        due.is("it is defined", x.define(body, 0), 0);
        x.reduce(u0, 0);
        due.is("its type", x.typeOf(0), 23);
        due.is("it has that variable", x.mark(22), 100);
        due.is("and the one that it hangs on", x.mark(3), 0);
        int named = x.make(CONSTANT, 0, 0);
        int n = declared(x, u0);
        due.is("applied", x.infer(apply(x, named, n), 0), 21);
        due.is("its variable is put", x.mark(20), 15);
    }

    /** "false if there is none such"; "NONE if there is none such". */
    private void noSuchConstant() {
        TermJudge x = new TermJudge();
        int u0 = x.make(UNIVERSE, 0, 0);
        int u9 = x.make(UNIVERSE, 9, 0);
        x.infer(u9, 0);
        for (int c = 0; c <= 16; c++) {
            due.is("no body before it comes", x.hasBody(c), false);
            due.is("no type before it comes", x.typeOf(c), NONE);
            due.is("the result stays", x.mark(0), c == 0 ? 101 : 11);
            due.is("it comes", x.define(u0, 0), c < 16 ? c : NONE);
            due.is("its body", x.hasBody(c), c < 16);
            due.is("its type", x.typeOf(c), c < 16 ? 1 : NONE);
        }
        for (int far : FAR) {
            due.is("body of " + far, x.hasBody(far), false);
            due.is("type of " + far, x.typeOf(far), NONE);
        }
    }

    /** "its kind, and, for kinds 0, 1, 5, 10 more than that for each 1 of its a; NONE if there is none." */
    private void marksOfTheResultAlone() {
        TermJudge x = new TermJudge();
        for (int k = -1; k <= 60; k++) {
            due.is("no result has mark " + k, x.mark(k), NONE);
        }
        int[] had = new int[60];
        int u0 = sized(x, 1, had);
        for (int nodes : new int[] {59, 31, 1, 59, 3}) {
            int t = sized(x, nodes, had);
            due.is("so many nodes", x.reduce(t, 0), nodes);
            due.is("the first", x.mark(0), nodes == 1 ? 1 : 2);
            due.is("the last", x.mark(nodes - 1), 1);
            due.is("none behind", x.mark(nodes), NONE);
            due.is("nor far behind", x.mark(59), NONE);
            for (int far : FAR) {
                due.is("mark " + far, x.mark(far), NONE);
            }
        }
        while (x.constants() < 16) {
            x.declare(u0, 0);
        }
        x.reduce(x.make(CONSTANT, 15, 0), 0);
        due.is("constant 15", x.mark(0), 155);
        x.reduce(x.make(VARIABLE, 9, 0), 0);
        due.is("variable 9", x.mark(0), 90);
    }

    /** "NONE if there is no result". */
    private void keepWithoutResult() {
        TermJudge x = new TermJudge();
        due.is("a new object", x.keep(), NONE);
        int u0 = x.make(UNIVERSE, 0, 0);
        int v0 = x.make(VARIABLE, 0, 0);
        int redex = apply(x, function(x, u0, v0), u0);
        x.same(u0, u0, 30);
        x.check(u0, u0, 30);
        x.declare(u0, 30);
        x.define(u0, 30);
        Due.answerOf(() -> x.infer(v0, 30));
        Due.answerOf(() -> x.reduce(redex, 0));
        Due.answerOf(() -> x.reduce(redex, 31));
        x.typeOf(2);
        due.is("no call made one", x.keep(), NONE);
        due.is("nor marks", x.mark(0), NONE);
        due.is("no term came", x.terms(), 4);
        x.typeOf(1);
        due.is("typeOf makes one", x.keep(), 4);
        due.is("universe 1", x.term(4, 1), 1);
    }

    /** NONE if "a UNIVERSE in it is above 9, a VARIABLE above 9". */
    private void keepSignsUpTo9() {
        TermJudge x = new TermJudge();
        int u0 = x.make(UNIVERSE, 0, 0);
        int u8 = x.make(UNIVERSE, 8, 0);
        int u9 = x.make(UNIVERSE, 9, 0);
        int constant = function(x, u0, function(x, u0, x.make(VARIABLE, 1, 0)));
        x.infer(u8, 0);
        due.is("universe 9", x.keep(), u9);
        x.infer(u9, 0);
        due.is("universe 10", x.keep(), NONE);
        x.infer(function(x, u0, u9), 0);
        due.is("universe 10 within", x.keep(), NONE);
        x.reduce(apply(x, constant, x.make(VARIABLE, 8, 0)), 1);
        int have = x.terms();
        due.is("variable 9", x.keep(), have + 1);
        due.is("it was made", x.term(have, 1), 9);
        x.reduce(apply(x, constant, x.make(VARIABLE, 9, 0)), 1);
        have = x.terms();
        due.is("variable 10", marks(x), "3 1 100");
        due.is("can't be made", x.keep(), NONE);
        due.is("nor is its part", x.terms(), have);
        while (x.constants() < 16) {
            x.declare(u0, 0);
        }
        x.reduce(apply(x, constant, x.make(CONSTANT, 15, 0)), 1);
        have = x.terms();
        due.is("a constant above 9", x.keep(), have);
        due.is("it is constant 15", x.term(x.term(have, 2), 1), 15);
    }

    /** NONE if "not so many terms can be made (then none is)". */
    private void keepNeedsRoomForAll() {
        for (int room = 0; room <= 4; room++) {
            TermJudge x = new TermJudge();
            int u0 = x.make(UNIVERSE, 0, 0);
            int v0 = x.make(VARIABLE, 0, 0);
            int body = x.make(PI, x.make(VARIABLE, 4, 0), x.make(VARIABLE, 6, 0));
            x.reduce(apply(x, function(x, u0, body), v0), 1);
            while (x.terms() < 120 - room) {
                x.make(UNIVERSE, 5, 0);
            }
            due.is("three in a room of " + room, x.keep(), room < 3 ? NONE : 122 - room);
            due.is("all or none", x.terms(), room < 3 ? 120 - room : 123 - room);
            due.is("once more", x.keep(), room < 3 ? NONE : 122 - room);
            due.is("the result stays", marks(x), "2 30 50");
            for (int t = x.terms(); t < 120; t++) {
                due.is("the rest of the room", x.make(VARIABLE, 3, 0), t);
            }
            x.reduce(body, 0);
            due.is("what is there needs no room", x.keep(), body);
        }
    }

    /** "as far as they aren't: a node is the first term that has the same kind, a and b". */
    private void keepFindsTheFirst() {
        TermJudge x = new TermJudge();
        int u5 = x.make(UNIVERSE, 5, 7);
        int v5 = x.make(VARIABLE, 5, 7);
        int again = x.make(UNIVERSE, 5, 8);
        int mixed = x.make(PI, again, v5);
        int turned = x.make(PI, v5, again);
        x.reduce(again, 0);
        due.is("a leaf, whatever b was given", x.keep(), u5);
        x.reduce(v5, 0);
        due.is("not of another kind", x.keep(), v5);
        x.reduce(mixed, 0);
        due.is("its own part is not the first one", x.keep(), 5);
        due.is("so it is another one", x.term(5, 1), u5);
        x.reduce(turned, 0);
        due.is("nor is this one's", x.keep(), 6);
        due.is("with a and b the other way", x.term(6, 1), v5);
        x.reduce(x.make(FUNCTION, u5, v5), 0);
        due.is("of that kind", x.keep(), 7);
        x.reduce(x.make(PI, u5, v5), 0);
        due.is("the first of two", x.keep(), 5);
        x.reduce(x.make(APPLICATION, x.make(VARIABLE, 8, 0), x.make(VARIABLE, 8, 0)), 0);
        due.is("like parts are one term", x.term(x.keep(), 2), 9);
    }
}

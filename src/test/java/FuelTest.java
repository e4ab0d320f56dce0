import java.util.LinkedHashMap;
import java.util.Map;

/**
 * For each sentence of the document that names a boundary of fuel, of what is TOO MUCH, or of a
 * call that throws, a test of its own, which stands behind the sentence.
 */
public final class FuelTest extends TestTerms {
    /** In a furnished object, a term that is TOO MUCH or WRONG in every call, as fuel may be. */
    private static final int BAD = 11;

    /** A call that has fuel; where it has two terms the other one is term 0, UNIVERSE 0. */
    private interface Fuelled {
        Object answer(TermJudge x, int t, int fuel);
    }

    private final Due due = new Due();
    private final Map<String, Fuelled> finding = new LinkedHashMap<>();
    private final Map<String, Fuelled> reducing = new LinkedHashMap<>();
    private final Map<String, Fuelled> all = new LinkedHashMap<>();

    private FuelTest() {
        finding.put("infer", TermJudge::infer);
        finding.put("check of", (x, t, fuel) -> x.check(t, 0, fuel));
        finding.put("check against", (x, t, fuel) -> x.check(0, t, fuel));
        finding.put("declare", TermJudge::declare);
        finding.put("define", TermJudge::define);
        reducing.put("reduce", TermJudge::reduce);
        reducing.put("same with", (x, t, fuel) -> x.same(t, 0, fuel));
        reducing.put("same to", (x, t, fuel) -> x.same(0, t, fuel));
        all.putAll(finding);
        all.putAll(reducing);
    }

    public static void main(String[] args) {
        FuelTest t = new FuelTest();
        t.noSuchTerm();
        t.fuel0To30();
        t.whatIsRefusedChangesNothing();
        t.whatThrowsChangesReducedAlone();
        t.oneMoreThanFuel();
        t.noFuelWhereNoneIsNeeded();
        t.reductionOfTooManyNodes();
        t.reductionTooDeep();
        t.bodyTooGreat();
        t.tooManyNodesInEachCall();
        t.tooDeepInEachCall();
        t.theWholeTermThatIsBrought();
        t.onlyTheTermThatIsBrought();
        t.theFirstOneThenTheSecond();
        t.putTooGreat();
        t.piTooGreat();
        t.foundFirstInParts();
        t.foundFirstInApplications();
        t.due.end("FuelTest");
    }

    private void everyOne(String name, Map<String, Fuelled> calls, TermJudge x, int t, int fuel,
            Class<? extends RuntimeException> want) {
        calls.forEach((way, call) -> due.refused(name + ": " + way, () -> call.answer(x, t, fuel), want));
    }

    private void noneThrows(String name, Map<String, Fuelled> calls, TermJudge x, int t, int fuel) {
        calls.forEach((way, call) -> due.is(name + ": " + way + " throws",
                Due.answerOf(() -> call.answer(x, t, fuel)).startsWith("throws"), false));
    }

    /** All that an object shows, but for reduced(); it has another RESULT afterwards. */
    private static String whole(TermJudge x) {
        StringBuilder text = new StringBuilder(marks(x)).append('|').append(x.terms());
        for (int t = 0; t <= x.terms(); t++) {
            for (int what = 0; what < 5; what++) {
                text.append(' ').append(x.term(t, what));
            }
        }
        text.append('|').append(x.constants());
        for (int c = 0; c <= x.constants(); c++) {
            text.append(' ').append(x.hasBody(c)).append(' ').append(x.typeOf(c)).append(' ').append(marks(x));
        }
        return text.toString();
    }

    /** Terms, one constant of each kind, a RESULT, and two reductions made by the latest call. */
    private static TermJudge furnished() {
        TermJudge x = new TermJudge();
        int u0 = x.make(UNIVERSE, 0, 0);
        int v0 = x.make(VARIABLE, 0, 0);
        int id = function(x, x.make(UNIVERSE, 1, 0), v0);
        int needsTwo = nested(x, id, u0, 2);
        int c = declared(x, needsTwo);
        x.define(id, 0);
        int inner = function(x, c, x.make(VARIABLE, 1, 0));
        apply(x, function(x, c, inner), v0, v0);
        x.reduce(needsTwo, 2);
        return x;
    }

    /** "IllegalArgumentException: there is no such term". */
    private void noSuchTerm() {
        everyOne("a new object", all, new TermJudge(), 0, 0, NO_SUCH);
        TermJudge x = new TermJudge();
        x.make(UNIVERSE, 0, 0);
        x.make(UNIVERSE, 0, 0);
        for (int t : new int[] {-1, 2, 3, 119, 120, 121, Integer.MIN_VALUE, Integer.MAX_VALUE}) {
            everyOne("term " + t, all, x, t, 0, NO_SUCH);
            due.refused("same of " + t + " twice", () -> x.same(t, t, 0), NO_SUCH);
            due.refused("check of " + t + " twice", () -> x.check(t, t, 0), NO_SUCH);
        }
        noneThrows("the first term", all, x, 0, 0);
        noneThrows("the last term", all, x, 1, 0);
        TermJudge full = new TermJudge();
        for (int t = 0; t < 120; t++) {
            full.make(UNIVERSE, 0, 0);
        }
        noneThrows("the 120th term", all, full, 119, 0);
        everyOne("the 121st", all, full, 120, 0, NO_SUCH);
    }

    /** "or fuel isn't 0 .. 30". */
    private void fuel0To30() {
        TermJudge x = new TermJudge();
        x.make(UNIVERSE, 0, 0);
        int free = x.make(VARIABLE, 0, 0);
        for (int fuel : new int[] {-1, 31, 32, -30, Integer.MIN_VALUE, Integer.MAX_VALUE}) {
            everyOne("fuel " + fuel, all, x, 0, fuel, NO_SUCH);
            everyOne("before what is WRONG, fuel " + fuel, all, x, free, fuel, NO_SUCH);
            everyOne("no term either, fuel " + fuel, all, x, 2, fuel, NO_SUCH);
        }
        due.is("no constant came", x.constants(), 0);
        for (int fuel : new int[] {0, 1, 15, 29, 30}) {
            noneThrows("fuel " + fuel, all, x, 0, fuel);
        }
    }

    /** "A call that throws changes nothing but what reduced() says (IllegalArgumentException not even that". */
    private void whatIsRefusedChangesNothing() {
        String before = whole(furnished());
        all.forEach((way, call) -> {
            TermJudge x = furnished();
            due.refused(way + ": no such term", () -> call.answer(x, x.terms(), 30), NO_SUCH);
            due.refused(way + ": term -1", () -> call.answer(x, -1, 30), NO_SUCH);
            due.refused(way + ": fuel 31", () -> call.answer(x, BAD, 31), NO_SUCH);
            due.refused(way + ": fuel -1", () -> call.answer(x, 0, -1), NO_SUCH);
            due.is(way + ": reduced()", x.reduced(), 2);
            due.is(way + ": all else", whole(x), before);
        });
    }

    /** "A call that throws changes nothing but what reduced() says": WRONG and TOO MUCH. */
    private void whatThrowsChangesReducedAlone() {
        all.forEach((way, call) -> {
            throwsAfter(way, call, 0, TOO_MUCH, 0);
            throwsAfter(way, call, 1, TOO_MUCH, 1);
        });
        finding.forEach((way, call) -> {
            throwsAfter(way, call, 3, TOO_MUCH, 3);
            throwsAfter(way, call, 4, WRONG, 4);
            throwsAfter(way, call, 30, WRONG, 4);
        });
    }

    private void throwsAfter(String way, Fuelled call, int fuel, Class<? extends RuntimeException> want, int made) {
        TermJudge x = furnished();
        due.refused(way + " with " + fuel, () -> call.answer(x, BAD, fuel), want);
        due.is(way + " with " + fuel + ": reduced()", x.reduced(), made);
        due.is(way + " with " + fuel + ": all else", whole(x), whole(furnished()));
    }

    /**
     * A term whose head form UNIVERSE 0 is so many reductions away: a function that gives what it
     * is given, then constants whose bodies are that, two reductions each.
     */
    private static int away(TermJudge x, int reductions) {
        int id = function(x, x.make(UNIVERSE, 1, 0), x.make(VARIABLE, 0, 0));
        int t = 0;
        int last = 2 - reductions % 2;
        for (int i = last; i < reductions; i += 2) {
            t = defined(x, apply(x, id, t));
        }
        return nested(x, id, t, last);
    }

    /** "In each call at most fuel (0 .. 30) reductions are made; if one more were to be made, it is TOO MUCH". */
    private void oneMoreThanFuel() {
        for (int needed = 1; needed <= 30; needed++) {
            for (Map.Entry<String, Fuelled> way : all.entrySet()) {
                TermJudge x = new TermJudge();
                x.make(UNIVERSE, 0, 0);
                int type = away(x, needed);
                int t = reducing.containsKey(way.getKey()) ? type : x.make(PI, declared(x, type), 0);
                String name = way.getKey() + " needs " + needed;
                int fewer = needed - 1;
                due.refused(name, () -> way.getValue().answer(x, t, fewer), TOO_MUCH);
                due.is(name + ": as many as fuel", x.reduced(), fewer);
                int exact = needed;
                String answer = Due.answerOf(() -> way.getValue().answer(x, t, exact));
                due.is(name + ": has them", answer.startsWith("throws"), false);
                due.is(name + ": as many as needed", x.reduced(), needed);
            }
        }
    }

    /** "at most fuel (0 .. 30)": with fuel 0 none is made, and a call that needs none answers. */
    private void noFuelWhereNoneIsNeeded() {
        TermJudge x = furnished();
        int[] terms = {0, x.make(PI, 0, 0), x.make(PI, 0, x.make(VARIABLE, 0, 0))};
        for (int t : terms) {
            noneThrows("no fuel", all, x, t, 0);
            due.is("no reduction", x.reduced(), 0);
        }
    }

    /** "so it is if a reduction's term .. has more than 60 nodes"; "isn't counted". */
    private void reductionOfTooManyNodes() {
        TermJudge x = new TermJudge();
        int[] had = new int[60];
        int u0 = sized(x, 1, had);
        int v0 = x.make(VARIABLE, 0, 0);
        int v1 = x.make(VARIABLE, 1, 0);
        int twice = function(x, u0, x.make(PI, v0, v1));
        int twiceAndTwo = function(x, u0, x.make(PI, v0, x.make(PI, v1, u0)));
        due.is("59 nodes", x.reduce(apply(x, twice, sized(x, 29, had)), 30), 59);
        due.is("counted", x.reduced(), 1);
        due.refused("61 nodes", () -> x.reduce(apply(x, twiceAndTwo, sized(x, 29, had)), 30), TOO_MUCH);
        due.is("not counted", x.reduced(), 0);
        due.refused("63 nodes", () -> x.reduce(apply(x, twice, sized(x, 31, had)), 30), TOO_MUCH);
        due.is("not counted either", x.reduced(), 0);
        int id = function(x, u0, v0);
        due.refused("61 nodes later", () -> x.reduce(apply(x, id, twiceAndTwo, sized(x, 29, had)), 30), TOO_MUCH);
        due.is("the one before is counted", x.reduced(), 1);
        due.is("the result stays", x.mark(58), 1);
        int times = function(x, u0, chain(x, PI, v0, u0, 3));
        due.is("once put, 49 + 6", x.reduce(apply(x, times, sized(x, 49, had)), 30), 55);
        due.is("dropped, from 59 nodes", x.reduce(apply(x, function(x, u0, u0), sized(x, 55, had)), 30), 1);
    }

    /** "or is more than 12 deep". */
    private void reductionTooDeep() {
        TermJudge x = new TermJudge();
        int u0 = x.make(UNIVERSE, 0, 0);
        int v0 = x.make(VARIABLE, 0, 0);
        int deep10 = chain(x, PI, u0, u0, 9);
        int deep11 = x.make(PI, deep10, u0);
        int byB = function(x, u0, apply(x, u0, v0));
        int byBTwice = function(x, u0, apply(x, u0, apply(x, u0, v0)));
        int byA = function(x, u0, apply(x, v0, u0));
        int byATwice = function(x, u0, apply(x, v0, u0, u0));
        due.is("12 deep by b", x.reduce(apply(x, byB, deep11), 30), 23);
        due.is("12 deep by a", x.reduce(apply(x, byA, deep11), 30), 23);
        due.is("12 deep by b, twice", x.reduce(apply(x, byBTwice, deep10), 30), 23);
        due.is("12 deep by a, twice", x.reduce(apply(x, byATwice, deep10), 30), 23);
        due.is("counted", x.reduced(), 1);
        due.refused("13 deep by b", () -> x.reduce(apply(x, byBTwice, deep11), 30), TOO_MUCH);
        due.is("not counted", x.reduced(), 0);
        due.refused("13 deep by a", () -> x.reduce(apply(x, byATwice, deep11), 30), TOO_MUCH);
        due.is("not counted either", x.reduced(), 0);
    }

    /** The same, where "the head is a CONSTANT that has a body: it becomes that". */
    private void bodyTooGreat() {
        TermJudge x = new TermJudge();
        int[] had = new int[60];
        int u0 = sized(x, 1, had);
        int wide = defined(x, sized(x, 29, had));
        due.is("59 nodes", x.reduce(apply(x, wide, sized(x, 29, had)), 30), 59);
        due.is("counted", x.reduced(), 1);
        due.refused("61 nodes", () -> x.reduce(apply(x, wide, sized(x, 31, had)), 30), TOO_MUCH);
        due.is("not counted", x.reduced(), 0);
        due.is("a body of 59 nodes", x.reduce(defined(x, sized(x, 59, had)), 1), 59);
        int deep11 = chain(x, PI, u0, u0, 10);
        int eleven = defined(x, deep11);
        int twelve = defined(x, x.make(PI, deep11, u0));
        due.is("a body 12 deep", x.reduce(twelve, 1), 23);
        due.is("12 deep when applied", x.reduce(apply(x, eleven, u0), 30), 23);
        due.refused("13 deep when applied", () -> x.reduce(apply(x, twelve, u0), 30), TOO_MUCH);
        due.refused("13 deep when applied twice", () -> x.reduce(apply(x, eleven, u0, u0), 30), TOO_MUCH);
        due.is("not counted either", x.reduced(), 0);
    }

    /** A reduction's term as a term, and as the type of a constant whose level is to be found. */
    private void fits(String name, TermJudge x, int redex, boolean fits) {
        int ofRedex = x.make(PI, declared(x, redex), 0);
        if (fits) {
            noneThrows(name, reducing, x, redex, 30);
        } else {
            everyOne(name, reducing, x, redex, 30, TOO_MUCH);
        }
        due.is(name + " reduced", x.reduced(), fits ? 1 : 0);
        everyOne(name + " as a type", finding, x, ofRedex, 30, fits ? WRONG : TOO_MUCH);
        due.is(name + " as a type reduced", x.reduced(), fits ? 1 : 0);
    }

    /** In each call with fuel: "so it is if a reduction's term .. has more than 60 nodes". */
    private void tooManyNodesInEachCall() {
        TermJudge x = new TermJudge();
        int[] had = new int[60];
        int u0 = sized(x, 1, had);
        int u1 = x.make(UNIVERSE, 1, 0);
        int v0 = x.make(VARIABLE, 0, 0);
        int v1 = x.make(VARIABLE, 1, 0);
        int twice = function(x, u1, x.make(PI, v0, v1));
        int twiceAndTwo = function(x, u1, x.make(PI, v0, x.make(PI, v1, u0)));
        fits("57 nodes", x, apply(x, twiceAndTwo, sized(x, 27, had)), true);
        fits("59 nodes", x, apply(x, twice, sized(x, 29, had)), true);
        fits("61 nodes", x, apply(x, twiceAndTwo, sized(x, 29, had)), false);
        fits("63 nodes", x, apply(x, twice, sized(x, 31, had)), false);
    }

    /** In each call with fuel: "or is more than 12 deep". */
    private void tooDeepInEachCall() {
        TermJudge x = new TermJudge();
        int u0 = x.make(UNIVERSE, 0, 0);
        int u1 = x.make(UNIVERSE, 1, 0);
        int deep10 = chain(x, PI, u0, u0, 9);
        int deep11 = x.make(PI, deep10, u0);
        int once = function(x, u1, x.make(PI, u0, x.make(VARIABLE, 1, 0)));
        int twice = function(x, u1, x.make(PI, u0, x.make(PI, u0, x.make(VARIABLE, 2, 0))));
        fits("11 deep", x, apply(x, once, deep10), true);
        fits("12 deep", x, apply(x, once, deep11), true);
        fits("12 deep, by two", x, apply(x, twice, deep10), true);
        fits("13 deep", x, apply(x, twice, deep11), false);
    }

    /** "(the whole one that is brought to its head form)": what its head is applied to counts. */
    private void theWholeTermThatIsBrought() {
        TermJudge x = new TermJudge();
        int[] had = new int[60];
        int u0 = sized(x, 1, had);
        int v0 = x.make(VARIABLE, 0, 0);
        int twice = function(x, u0, x.make(PI, v0, x.make(VARIABLE, 1, 0)));
        int n27 = apply(x, twice, sized(x, 13, had));
        due.is("27 + 1 + 31 nodes", x.reduce(apply(x, n27, sized(x, 31, had)), 30), 59);
        due.refused("27 + 1 + 33 nodes", () -> x.reduce(apply(x, n27, sized(x, 33, had)), 30), TOO_MUCH);
        due.is("not counted", x.reduced(), 0);
        int deep7 = chain(x, PI, u0, u0, 6);
        int deep9 = apply(x, function(x, u0, apply(x, u0, apply(x, u0, v0))), deep7);
        due.is("9 + 3 deep", x.reduce(apply(x, deep9, u0, u0, u0), 30), 23);
        due.refused("9 + 4 deep", () -> x.reduce(apply(x, deep9, u0, u0, u0, u0), 30), TOO_MUCH);
        due.is("not counted either", x.reduced(), 0);
    }

    /** The same sentence: what lies around a part that is brought to its head form doesn't count. */
    private void onlyTheTermThatIsBrought() {
        TermJudge x = new TermJudge();
        int[] had = new int[60];
        int u0 = sized(x, 1, had);
        int v0 = x.make(VARIABLE, 0, 0);
        int twice = function(x, u0, x.make(PI, v0, x.make(VARIABLE, 1, 0)));
        int n47 = apply(x, twice, sized(x, 23, had));
        int pair = x.make(PI, n47, x.make(PI, u0, apply(x, twice, sized(x, 21, had))));
        due.is("of 59 nodes", x.term(pair, 3), 59);
        due.is("97 nodes in parts", x.same(pair, pair, 30), true);
        due.is("each reduced", x.reduced(), 4);
        int deep10 = chain(x, PI, u0, u0, 9);
        int deep12 = apply(x, function(x, u0, apply(x, u0, apply(x, u0, v0))), deep10);
        int within = x.make(PI, u0, deep12);
        due.is("12 deep before", x.term(within, 4), 12);
        due.is("13 deep by a part", x.same(within, within, 30), true);
        due.is("both reduced", x.reduced(), 2);
        int applied = apply(x, v0, deep12);
        due.is("also below a head form", x.same(applied, applied, 30), true);
    }

    /**
     * "the first one is brought to its head form, then the second one": one of them is brought there
     * by one reduction, the other is TOO MUCH at once, so reduced() tells which came first.
     */
    private void theFirstOneThenTheSecond() {
        TermJudge x = new TermJudge();
        int[] had = new int[60];
        int u0 = sized(x, 1, had);
        int u1 = x.make(UNIVERSE, 1, 0);
        int v0 = x.make(VARIABLE, 0, 0);
        int one = apply(x, function(x, u1, v0), u0);
        int much = apply(x, function(x, u1, x.make(PI, v0, x.make(VARIABLE, 1, 0))), sized(x, 31, had));
        muchAfter("same, the first one", 0, () -> x.same(much, one, 30), x);
        muchAfter("same, the second one", 1, () -> x.same(one, much, 30), x);
        for (int kind = PI; kind <= FUNCTION; kind++) {
            int[] byA = {x.make(kind, much, u0), x.make(kind, one, u0)};
            int[] byB = {x.make(kind, u0, much), x.make(kind, u0, one)};
            muchAfter("same, the first one's a", 0, () -> x.same(byA[0], byA[1], 30), x);
            muchAfter("same, the second one's a", 1, () -> x.same(byA[1], byA[0], 30), x);
            muchAfter("same, the first one's b", 0, () -> x.same(byB[0], byB[1], 30), x);
            muchAfter("same, the second one's b", 1, () -> x.same(byB[1], byB[0], 30), x);
        }
        int ofOne = declared(x, one);
        int ofMuch = declared(x, much);
        muchAfter("check, what was found", 0, () -> x.check(ofMuch, one, 30), x);
        muchAfter("check, then the type", 1, () -> x.check(ofOne, much, 30), x);
        int takesOne = declared(x, x.make(PI, one, u0));
        int takesMuch = declared(x, x.make(PI, much, u0));
        muchAfter("infer, the type of b", 0, () -> x.infer(apply(x, takesOne, ofMuch), 30), x);
        muchAfter("infer, then the a of the PI", 1, () -> x.infer(apply(x, takesMuch, ofOne), 30), x);
    }

    private void muchAfter(String name, int made, Due.Call call, TermJudge x) {
        due.refused(name, call, TOO_MUCH);
        due.is(name + ": reduced()", x.reduced(), made);
    }

    /** A type N, zero of it, next of one, join of two, and Q of two: constants 0 to 4, in this order. */
    private static int[] numbers(TermJudge x) {
        int u0 = x.make(UNIVERSE, 0, 0);
        int n = declared(x, u0);
        int zero = declared(x, n);
        int next = declared(x, x.make(PI, n, n));
        int join = declared(x, x.make(PI, n, x.make(PI, n, n)));
        int q = declared(x, x.make(PI, n, x.make(PI, n, u0)));
        return new int[] {n, zero, next, join, q};
    }

    /** For each x of N one of Q x x, so of 3 nodes and two x more. */
    private static int givenTwo(TermJudge x, int[] numbers) {
        int v0 = x.make(VARIABLE, 0, 0);
        return declared(x, x.make(PI, numbers[0], apply(x, numbers[4], v0, v0)));
    }

    /** For each x of N one of Q x (next x), so of 5 nodes and two x more. */
    private static int givenTwoAndTwo(TermJudge x, int[] numbers) {
        int v0 = x.make(VARIABLE, 0, 0);
        int second = apply(x, numbers[2], v0);
        return declared(x, x.make(PI, numbers[0], apply(x, numbers[4], v0, second)));
    }

    /** A number of 27 nodes, or 29. */
    private static int great(TermJudge x, int[] numbers, boolean greater) {
        int n5 = apply(x, numbers[3], numbers[1], numbers[1]);
        int n13 = apply(x, numbers[3], n5, n5);
        int n3 = apply(x, numbers[2], numbers[1]);
        return apply(x, numbers[3], n13, greater ? n13 : apply(x, numbers[3], n5, n3));
    }

    /** TOO MUCH is "what comes by putting in an APPLICATION's type". */
    private void putTooGreat() {
        TermJudge x = new TermJudge();
        int[] numbers = numbers(x);
        int two = givenTwo(x, numbers);
        int twoAndTwo = givenTwoAndTwo(x, numbers);
        int n27 = great(x, numbers, false);
        int n29 = great(x, numbers, true);
        due.is("57 nodes", x.infer(apply(x, two, n27), 0), 57);
        due.is("59 nodes", x.infer(apply(x, twoAndTwo, n27), 0), 59);
        everyOne("61 nodes", finding, x, apply(x, two, n29), 30, TOO_MUCH);
        everyOne("63 nodes", finding, x, apply(x, twoAndTwo, n29), 30, TOO_MUCH);
        int deep9 = nested(x, numbers[2], numbers[1], 8);
        int deep10 = apply(x, numbers[2], deep9);
        int deep11 = apply(x, numbers[2], deep10);
        due.is("12 deep", x.infer(apply(x, two, deep10), 0), 41);
        due.is("12 deep by next", x.infer(apply(x, twoAndTwo, deep10), 0), 43);
        everyOne("13 deep", finding, x, apply(x, two, deep11), 30, TOO_MUCH);
        everyOne("13 deep by next", finding, x, apply(x, twoAndTwo, deep11), 30, TOO_MUCH);
        due.is("the result stays", x.mark(42), 15);
        due.is("no reduction was made", x.reduced(), 0);
    }

    /** TOO MUCH is "the PI of a FUNCTION's type". */
    private void piTooGreat() {
        TermJudge x = new TermJudge();
        int[] numbers = numbers(x);
        int n = numbers[0];
        int two = givenTwo(x, numbers);
        int twoAndTwo = givenTwoAndTwo(x, numbers);
        int n27 = great(x, numbers, false);
        int of57 = apply(x, two, n27);
        int of59 = apply(x, twoAndTwo, n27);
        due.is("1 + 57 + 1 nodes", x.infer(function(x, n, of57), 0), 59);
        everyOne("1 + 59 + 1 nodes", finding, x, function(x, n, of59), 30, TOO_MUCH);
        everyOne("1 + 59 + 1 nodes within", finding, x, function(x, n, function(x, n, of57)), 30, TOO_MUCH);
        int wide = apply(x, numbers[4], n27, n27);
        due.is("57 + 1 + 1 nodes", x.infer(function(x, wide, numbers[1]), 0), 59);
        int deep9 = nested(x, numbers[2], numbers[1], 8);
        int deep10 = apply(x, numbers[2], deep9);
        due.is("12 deep by b", x.infer(function(x, n, apply(x, two, deep9)), 0), 39);
        everyOne("13 deep by b", finding, x, function(x, n, apply(x, two, deep10)), 30, TOO_MUCH);
        int deepType = apply(x, numbers[4], deep9, deep9);
        due.is("12 deep by a", x.infer(function(x, deepType, numbers[1]), 0), 39);
        due.is("no reduction was made", x.reduced(), 0);
    }

    /** "What is found first counts": in a PI, in a FUNCTION, and in the two terms of a check. */
    private void foundFirstInParts() {
        TermJudge x = new TermJudge();
        int u0 = x.make(UNIVERSE, 0, 0);
        int wrong = x.make(VARIABLE, 9, 0);
        int much = function(x, declared(x, away(x, 1)), u0);
        due.refused("WRONG alone", () -> x.infer(wrong, 0), WRONG);
        due.refused("TOO MUCH alone", () -> x.infer(much, 0), TOO_MUCH);
        for (int kind = PI; kind <= FUNCTION; kind++) {
            everyOne("WRONG in a", finding, x, x.make(kind, wrong, much), 0, WRONG);
            everyOne("TOO MUCH in a", finding, x, x.make(kind, much, wrong), 0, TOO_MUCH);
            everyOne("WRONG in b", finding, x, x.make(kind, u0, wrong), 0, WRONG);
            everyOne("TOO MUCH in b", finding, x, x.make(kind, u0, much), 0, TOO_MUCH);
        }
        everyOne("WRONG in a", finding, x, apply(x, wrong, much), 0, WRONG);
        everyOne("TOO MUCH in a", finding, x, apply(x, much, wrong), 0, TOO_MUCH);
        due.refused("a check's type that is WRONG", () -> x.check(much, wrong, 0), WRONG);
        due.refused("a check's type that is TOO MUCH", () -> x.check(wrong, much, 0), TOO_MUCH);
        due.refused("the level of a check's type", () -> x.check(much, function(x, u0, u0), 0), WRONG);
        due.refused("then the term", () -> x.check(wrong, u0, 0), WRONG);
        due.refused("a level that is none, after fuel", () -> x.infer(x.make(PI, much, u0), 1), WRONG);
    }

    /** "What is found first counts": in the order in which an APPLICATION's type is found. */
    private void foundFirstInApplications() {
        TermJudge x = new TermJudge();
        int[] numbers = numbers(x);
        int n = numbers[0];
        int two = givenTwo(x, numbers);
        int n29 = great(x, numbers, true);
        int wide = apply(x, numbers[4], n29, numbers[1]);
        due.refused("another type before what comes by putting", () -> x.infer(apply(x, two, wide), 30), WRONG);
        due.refused("what comes by putting", () -> x.infer(apply(x, two, n29), 30), TOO_MUCH);
        due.refused("before it is no function", () -> x.infer(apply(x, two, n29, numbers[1]), 30), TOO_MUCH);
        due.refused("no PI before the type of b", () -> x.infer(apply(x, n, apply(x, two, n29)), 30), WRONG);
        due.refused("the type of b before it is another", () -> x.infer(apply(x, two, apply(x, two, n29)), 30),
                TOO_MUCH);
        int alias = defined(x, n);
        int ofAlias = declared(x, alias);
        due.refused("whether it's another, before putting", () -> x.infer(apply(x, two, ofAlias), 0), TOO_MUCH);
        due.is("with fuel", x.infer(apply(x, two, ofAlias), 1), 5);
        int hidden = declared(x, defined(x, x.make(PI, n, n)));
        int free = x.make(VARIABLE, 0, 0);
        due.refused("the head form of a's type before b", () -> x.infer(apply(x, hidden, free), 0), TOO_MUCH);
        due.refused("then b", () -> x.infer(apply(x, hidden, free), 1), WRONG);
        due.is("the one reduction", x.reduced(), 1);
    }
}

import java.lang.management.ManagementFactory;

/**
 * All calls of one run live in one room, so objects of the class must stay small and calls must
 * make next to nothing: this measures both, in a run of calls that are as dear as they can be,
 * and looks at what these answer.
 */
public final class RoomTest {
    private static final long MOST_FOR_AN_OBJECT = 25_000;
    private static final long MOST_FOR_A_RUN = 60_000;

    private final Due due;
    private final TermJudge x = new TermJudge();
    private int calls = 0;
    private int n;
    private int join;
    private int spread;

    private RoomTest(Due due) {
        this.due = due;
    }

    public static void main(String[] args) {
        Due due = new Due();
        new TermJudge();
        long start = bytes();
        new TermJudge();
        long object = bytes() - start;
        new RoomTest(due).run();
        start = bytes();
        int calls = new RoomTest(due).run();
        long run = bytes() - start;
        System.out.println("an object: " + object + " bytes; a dear run of " + calls + " calls: " + run + " bytes");
        due.is("a run has at most 512 calls", calls <= 512, true);
        due.is("an object's bytes are few", object <= MOST_FOR_AN_OBJECT, true);
        due.is("a dear run's bytes are few", run <= MOST_FOR_A_RUN, true);
        due.end("RoomTest");
    }

    private static long bytes() {
        return ((com.sun.management.ThreadMXBean) ManagementFactory.getThreadMXBean())
                .getThreadAllocatedBytes(Thread.currentThread().getId());
    }

    private int run() {
        declareAll();
        int argument = make(4, make(0, 3, 0), make(0, 4, 0));
        int last = make(4, make(0, 3, 0), make(0, 5, 0));
        int first = row(argument, argument);
        int second = row(argument, argument);
        int third = row(argument, last);
        while (calls < 380) {
            ask(first, second, third);
        }
        defineMany();
        ask(first, second, third);
        return calls;
    }

    private int make(int kind, int a, int b) {
        calls++;
        return x.make(kind, a, b);
    }

    private int joined(int a, int b) {
        return make(4, make(4, join, a), b);
    }

    /** A type N, join of two N, and spread of two N, whose body is much greater than its name. */
    private void declareAll() {
        int u0 = make(1, 0, 0);
        x.declare(u0, 0);
        n = make(5, 0, 0);
        x.declare(make(2, n, make(2, n, n)), 0);
        join = make(5, 1, 0);
        int two = joined(make(0, 1, 0), make(0, 1, 0));
        int four = joined(two, two);
        x.define(make(3, n, make(3, n, joined(four, four))), 30);
        spread = make(5, 2, 0);
        calls += 3;
    }

    /** PI of seven applications of spread. */
    private int row(int argument, int last) {
        int one = make(4, spread, argument);
        int two = make(2, one, one);
        int four = make(2, two, two);
        int three = make(2, two, make(4, spread, last));
        return make(2, four, three);
    }

    private void ask(int first, int second, int third) {
        due.is("same rows", x.same(first, second, 30), true);
        due.is("their reductions", x.reduced(), 28);
        due.is("rows whose last parts differ", x.same(first, third, 30), false);
        due.is("their reductions", x.reduced(), 28);
        due.is("an application of spread", x.reduce(x.term(x.term(first, 2), 2), 30), 47);
        due.is("a type that lasts", x.typeOf(2), 5);
        due.is("its first mark", x.mark(0), 2);
        due.is("its last mark", x.mark(4), 5);
        calls += 11;
    }

    private int declared(int type) {
        calls++;
        return make(5, x.declare(type, 30), 0);
    }

    /** Bodies whose types need many nodes each to be found, which must not stay. */
    private void defineMany() {
        int v0 = make(0, 0, 0);
        int zero = declared(n);
        int q = declared(make(2, n, make(1, 0, 0)));
        int ofQ = declared(make(2, n, make(4, q, v0)));
        int needsQ = declared(make(2, n, make(2, make(4, q, v0), n)));
        int great = make(4, make(4, spread, zero), zero);
        int sum = joined(great, joined(great, great));
        int body = make(4, make(4, needsQ, sum), make(4, ofQ, sum));
        for (int c = x.constants(); c < 16; c++) {
            due.is("define", x.define(body, 30), c);
            due.is("its reductions", x.reduced(), 18);
            due.is("its type", x.typeOf(c), 1);
            calls += 3;
        }
        calls++;
    }
}

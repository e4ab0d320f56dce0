import java.lang.management.ManagementFactory;

/**
 * All calls of one run live in one room, so objects of the class must stay small and calls must
 * make next to nothing: this measures both.
 */
public final class RoomTest {
    private static final long MOST_FOR_AN_OBJECT = 40_000;
    private static final long MOST_FOR_A_RUN = 1_500_000;

    public static void main(String[] args) {
        Due due = new Due();
        new TermJudge();
        long start = made();
        new TermJudge();
        long object = made() - start;
        dearRun();
        start = made();
        int calls = dearRun();
        long run = made() - start;
        System.out.println("an object: " + object + " bytes; a dear run of " + calls + " calls: " + run + " bytes");
        due.is("a run has at most 512 calls", calls <= 512, true);
        due.is("an object's bytes are few", object <= MOST_FOR_AN_OBJECT, true);
        due.is("a dear run's bytes are few", run <= MOST_FOR_A_RUN, true);
        due.end("RoomTest");
    }

    private static long made() {
        return ((com.sun.management.ThreadMXBean) ManagementFactory.getThreadMXBean())
                .getThreadAllocatedBytes(Thread.currentThread().getId());
    }

    /** Great types for many variables and applications, found again and again. */
    private static int dearRun() {
        TermJudge x = new TermJudge();
        int u0 = x.make(1, 0, 0);
        int v0 = x.make(0, 0, 0);
        x.declare(u0, 0);
        int n = x.make(5, 0, 0);
        x.declare(n, 0);
        int zero = x.make(5, 1, 0);
        x.declare(x.make(2, n, x.make(2, n, n)), 0);
        int join = x.make(5, 2, 0);
        int value = zero;
        for (int i = 0; i < 3; i++) {
            value = x.make(4, x.make(4, join, value), value);
        }
        x.define(x.make(3, n, x.make(4, x.make(4, join, v0), v0)), 0);
        int twice = x.make(5, 3, 0);
        int nested = x.make(4, twice, x.make(4, twice, x.make(4, twice, zero)));
        int calls = 24;
        while (calls < 506) {
            x.infer(value, 30);
            x.infer(nested, 30);
            x.same(nested, value, 30);
            x.check(nested, n, 30);
            x.reduce(nested, 30);
            x.keep();
            calls += 6;
        }
        return calls;
    }
}

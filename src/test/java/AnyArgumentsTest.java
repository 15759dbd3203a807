import java.lang.management.ManagementFactory;

/** LANGUAGE.md's rule 7: no call throws, whatever its arguments; and no call makes objects, as all runs share one room. */
public final class AnyArgumentsTest {
    private static final int[] INTS = {0, 1, 2, 3, 4, 5, 6, 7, 8, 9, 10, 11, -1, -2, 255, 256, 257,
        Integer.MIN_VALUE, Integer.MIN_VALUE + 1, Integer.MAX_VALUE};
    private static final long[] LONGS = {0, 1, -1, 1L << 32, Long.MIN_VALUE, Long.MAX_VALUE};

    public static void main(String[] args) {
        RegisterSealer[] objects = {new RegisterSealer(0, 0), filled(), locked()};
        for (RegisterSealer x : objects) {
            anyArguments(x);
        }
        makesNothing();
        Check.finish();
    }

    private static RegisterSealer filled() {
        RegisterSealer x = new RegisterSealer(Integer.MIN_VALUE, Integer.MAX_VALUE);
        for (int i = 0; i < 6; i++) {
            x.create(i);
            x.begin(i);
        }
        for (int i = 0; i < 10; i++) {
            x.prove(0, 0, 1, i, i);
            x.seal(0, 0, i, i);
        }
        return x;
    }

    private static RegisterSealer locked() {
        RegisterSealer x = filled();
        for (int i = 0; i < 3; i++) {
            x.quote(0, 0, 0, 0);
        }
        return x;
    }

    private static void anyArguments(RegisterSealer x) {
        try {
            askAll(x);
            x.reboot();
            askAll(x);
            Check.due("calls that throw", 0, 0);
        } catch (RuntimeException thrown) {
            thrown.printStackTrace(System.out);
            Check.due("calls that throw", 1, 0);
        }
    }

    private static void askAll(RegisterSealer x) {
        for (int p : INTS) {
            x.locality(p);
            x.reset(p);
            x.register(p);
            x.digest(p);
            x.name(p);
            x.nonce(p);
            for (long v : LONGS) {
                x.extend(p, v);
                x.create(v);
                x.begin(v);
                x.present(v);
                for (int q : INTS) {
                    askWithThree(x, p, q, v);
                }
            }
            x.output();
            x.failures();
            x.destroy(p);
            x.end(p);
        }
    }

    private static void askWithThree(RegisterSealer x, int p, int q, long v) {
        x.unseal(p, q);
        x.blob(p, q);
        x.change(p, q, v);
        for (int r : INTS) {
            x.prove(v, p, q, r, v);
            x.seal(p, q, r, v);
            x.prove(v, p, q, r, v);
            x.quote(p, q, r, v);
        }
    }

    // Counted by the machine itself: what the thread has been given. The first round loads what is loaded once.
    private static void makesNothing() {
        com.sun.management.ThreadMXBean threads =
            (com.sun.management.ThreadMXBean) ManagementFactory.getThreadMXBean();
        RegisterSealer x = filled();
        long given = 0;
        for (int round = 0; round < 3; round++) {
            long before = threads.getCurrentThreadAllocatedBytes();
            askAll(x);
            given = threads.getCurrentThreadAllocatedBytes() - before;
        }
        Check.due("given for some 200,000 calls is under a byte a call: " + given, given < 10_000, true);
    }
}

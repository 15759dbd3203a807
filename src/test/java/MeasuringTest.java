/** Promises 1 to 6: a new object, the locality, the registers and the digest. */
public final class MeasuringTest {
    private static final int[] NO_REGISTERS = {-1, 8, 9, Integer.MIN_VALUE, Integer.MAX_VALUE};
    private static final int[] NO_MASKS = {-1, 256, 257, Integer.MIN_VALUE, Integer.MAX_VALUE};
    private static final int[] NO_LOCALITIES = {-1, 4, 5, Integer.MIN_VALUE, Integer.MAX_VALUE};

    public static void main(String[] args) {
        promise1MachineSecret();
        promise1Empty();
        promise2Locality();
        promise3Extend();
        promise4Reset();
        promise5Register();
        promise6Digest();
        Check.finish();
    }

    private static RegisterSealer filled() {
        RegisterSealer x = new RegisterSealer(4, 5);
        x.locality(3);
        for (int p = 0; p < 8; p++) {
            x.extend(p, 100 + p);
        }
        return x;
    }

    private static long filledWord(int p) {
        return Check.hash(0, 100 + p);
    }

    private static void promise1MachineSecret() {
        int[] words = {0, 1, -1, 7, Integer.MIN_VALUE, Integer.MAX_VALUE};
        for (int a : words) {
            for (int b : words) {
                RegisterSealer x = new RegisterSealer(a, b);
                x.begin(0);
                Check.due("first nonce of (" + a + ", " + b + ")", x.nonce(0), Check.drawn(a, b, 1));
            }
        }
    }

    private static void promise1Empty() {
        RegisterSealer x = new RegisterSealer(-5, 6);
        for (int i = 0; i < 10; i++) {
            Check.due("new register " + i, x.register(i), 0);
            Check.due("new name " + i, x.name(i), 0);
            Check.due("new nonce " + i, x.nonce(i), 0);
            Check.due("new destroy " + i, x.destroy(i), false);
            Check.due("new end " + i, x.end(i), false);
            Check.due("new change " + i, x.change(i, 0, 1), false);
        }
        Check.due("new output", x.output(), 0);
        Check.due("new failures", x.failures(), 0);
        Check.due("new locality is over 1", x.extend(2, 1), false);
        Check.due("new prove", x.prove(0, 0, 1, 0, 0), false);
        Check.due("new seal", x.seal(0, 0, 0, 0), RegisterSealer.BAD);
        Check.due("new unseal", x.unseal(0, 0), RegisterSealer.BAD);
        Check.due("new quote", x.quote(0, 0, 0, 0), RegisterSealer.BAD);
    }

    private static void promise2Locality() {
        for (int from = 0; from < 4; from++) {
            for (int to = 0; to < 4; to++) {
                RegisterSealer x = new RegisterSealer(1, 1);
                Check.due("locality " + from, x.locality(from), true);
                Check.due("locality " + from + " to " + to, x.locality(to), true);
                localityIs(x, to);
            }
            for (int no : NO_LOCALITIES) {
                RegisterSealer x = new RegisterSealer(1, 1);
                x.locality(from);
                Check.due("locality " + no, x.locality(no), false);
                localityIs(x, from);
            }
        }
    }

    private static void localityIs(RegisterSealer x, int locality) {
        int[] needed = {0, 0, 1, 1, 2, 2, 3, 3};
        for (int p = 0; p < 8; p++) {
            Check.due("locality " + locality + ", extend " + p, x.extend(p, 1), locality >= needed[p]);
        }
    }

    private static void promise3Extend() {
        RegisterSealer x = new RegisterSealer(2, 2);
        long[] words = new long[8];
        long[] values = {0, 1, -1, Long.MIN_VALUE, Long.MAX_VALUE, 3141592653589793239L};
        for (int l = 0; l < 4; l++) {
            x.locality(l);
            for (int p = 0; p < 8; p++) {
                for (long v : values) {
                    boolean open = l >= p / 2;
                    Check.due("extend(" + p + ", " + v + ") at " + l, x.extend(p, v), open);
                    words[p] = open ? Check.hash(words[p], v) : words[p];
                    Check.due("register(" + p + ") after it", x.register(p), words[p]);
                }
            }
        }
        for (int no : NO_REGISTERS) {
            Check.due("extend " + no, x.extend(no, 1), false);
        }
        for (int p = 0; p < 8; p++) {
            Check.due("register " + p + " at the end", x.register(p), words[p]);
        }
    }

    private static void promise4Reset() {
        for (int l = 0; l < 4; l++) {
            for (int p = 0; p < 8; p++) {
                RegisterSealer x = filled();
                x.locality(l);
                boolean resets = p >= 4 && l >= p / 2;
                Check.due("reset " + p + " at " + l, x.reset(p), resets);
                for (int q = 0; q < 8; q++) {
                    long want = resets && q == p ? 0 : filledWord(q);
                    Check.due("register " + q + " after reset " + p + " at " + l, x.register(q), want);
                }
            }
        }
        RegisterSealer x = filled();
        for (int no : NO_REGISTERS) {
            Check.due("reset " + no, x.reset(no), false);
        }
        Check.due("reset 5", x.reset(5), true);
        Check.due("reset 5 again", x.reset(5), true);
        x.extend(5, 9);
        Check.due("extended after reset", x.register(5), Check.hash(0, 9));
    }

    private static void promise5Register() {
        RegisterSealer x = filled();
        x.locality(0);
        for (int p = 0; p < 8; p++) {
            Check.due("register " + p + ", open or not", x.register(p), filledWord(p));
        }
        for (int no : NO_REGISTERS) {
            Check.due("register " + no, x.register(no), RegisterSealer.NONE);
        }
    }

    private static void promise6Digest() {
        RegisterSealer x = filled();
        for (int mask = 0; mask < 256; mask++) {
            Check.due("digest " + mask, x.digest(mask), filledDigest(mask));
        }
        for (int no : NO_MASKS) {
            Check.due("digest " + no, x.digest(no), RegisterSealer.NONE);
        }
        x.extend(6, 3);
        long word = Check.hash(filledWord(6), 3);
        Check.due("digest of what is now", x.digest(64), Check.hash(64, word));
    }

    private static long filledDigest(int mask) {
        long[] words = new long[9];
        int n = 0;
        words[n++] = mask;
        int worth = 1;
        for (int p = 0; p < 8; p++) {
            if (mask / worth % 2 == 1) {
                words[n++] = filledWord(p);
            }
            worth *= 2;
        }
        return Check.hash(java.util.Arrays.copyOf(words, n));
    }
}

/** Promises 7 to 12: keys and sessions come, go and have their words. */
public final class KeysAndSessionsTest {
    private static final int A = 31;
    private static final int B = -17;
    private static final long[] SECRETS = {0, 1, -1, 1234, Long.MIN_VALUE, Long.MAX_VALUE};
    private static final int[] FAR = {-1, 6, 7, Integer.MIN_VALUE, Integer.MAX_VALUE};

    public static void main(String[] args) {
        promise7Create();
        promise7LeastFree();
        promise8Destroy();
        promise9Name();
        promise9NameThatIsZero();
        promise10Begin();
        promise10LeastFree();
        promise11End();
        promise12Nonce();
        Check.finish();
    }

    private static RegisterSealer withKeys() {
        RegisterSealer x = new RegisterSealer(A, B);
        for (long secret : SECRETS) {
            x.create(secret);
        }
        return x;
    }

    private static RegisterSealer withSessions() {
        RegisterSealer x = new RegisterSealer(A, B);
        for (int s = 0; s < 4; s++) {
            x.begin(SECRETS[s]);
        }
        return x;
    }

    private static long nameOf(long secret, int drawnAs) {
        return Check.hash(secret, Check.drawn(A, B, drawnAs));
    }

    private static void promise7Create() {
        RegisterSealer x = new RegisterSealer(A, B);
        for (int k = 0; k < 6; k++) {
            Check.due("create " + k, x.create(SECRETS[k]), k);
            Check.due("name " + k, x.name(k), nameOf(SECRETS[k], k + 1));
        }
        Check.due("create beyond six", x.create(3), RegisterSealer.FULL);
        for (int k = 0; k < 6; k++) {
            Check.due("name " + k + " after FULL", x.name(k), nameOf(SECRETS[k], k + 1));
        }
        x.begin(0);
        Check.due("FULL draws nothing", x.nonce(0), Check.drawn(A, B, 7));
    }

    private static void promise7LeastFree() {
        RegisterSealer x = withKeys();
        x.destroy(4);
        x.destroy(2);
        Check.due("create in the least gap", x.create(50), 2);
        Check.due("create in the other gap", x.create(51), 4);
        Check.due("create with no gap", x.create(52), RegisterSealer.FULL);
        Check.due("name in the least gap", x.name(2), nameOf(50, 7));
        Check.due("name in the other gap", x.name(4), nameOf(51, 8));
    }

    private static void promise8Destroy() {
        for (int k = 0; k < 6; k++) {
            RegisterSealer x = withKeys();
            x.begin(1);
            Check.due("destroy " + k, x.destroy(k), true);
            Check.due("destroy " + k + " again", x.destroy(k), false);
            Check.due("seal with it", x.seal(0, k, 0, 0), RegisterSealer.BAD);
            for (int other = 0; other < 6; other++) {
                long want = other == k ? RegisterSealer.NONE : nameOf(SECRETS[other], other + 1);
                Check.due("name " + other + " after destroy " + k, x.name(other), want);
            }
            for (int no : FAR) {
                Check.due("destroy " + no, x.destroy(no), false);
            }
        }
    }

    private static void promise9Name() {
        RegisterSealer x = new RegisterSealer(A, B);
        x.create(8);
        Check.due("name", x.name(0), nameOf(8, 1));
        for (int k = 1; k < 6; k++) {
            Check.due("name " + k + ", not there", x.name(k), RegisterSealer.NONE);
        }
        for (int no : FAR) {
            Check.due("name " + no, x.name(no), RegisterSealer.NONE);
        }
    }

    private static void promise9NameThatIsZero() {
        RegisterSealer x = new RegisterSealer(A, B);
        long secret = Check.secretForName(0, Check.drawn(A, B, 1));
        Check.due("create", x.create(secret), 0);
        Check.due("name of 0", x.name(0), 0);
        Check.due("create behind it", x.create(5), 1);
        Check.due("destroy it", x.destroy(0), true);
    }

    private static void promise10Begin() {
        RegisterSealer x = new RegisterSealer(A, B);
        for (int s = 0; s < 4; s++) {
            Check.due("begin " + s, x.begin(SECRETS[s]), s);
            Check.due("nonce " + s, x.nonce(s), Check.drawn(A, B, s + 1));
        }
        Check.due("begin beyond four", x.begin(3), RegisterSealer.FULL);
        for (int s = 0; s < 4; s++) {
            Check.due("nonce " + s + " after FULL", x.nonce(s), Check.drawn(A, B, s + 1));
        }
        x.create(0);
        Check.due("FULL draws nothing", x.name(0), nameOf(0, 5));
    }

    private static void promise10LeastFree() {
        RegisterSealer x = withSessions();
        x.create(77);
        x.end(3);
        x.end(1);
        Check.due("begin in the least gap", x.begin(60), 1);
        Check.due("begin in the other gap", x.begin(61), 3);
        Check.due("begin with no gap", x.begin(62), RegisterSealer.FULL);
        Check.due("nonce in the least gap", x.nonce(1), Check.drawn(A, B, 6));
        Check.due("nonce in the other gap", x.nonce(3), Check.drawn(A, B, 7));
        x.present(Check.mac(77, x.nonce(1), 60, 3, Check.hash(0, 9)));
        Check.due("the caller's nonce is the new one", x.quote(1, 0, 0, 9), 0);
    }

    private static void promise11End() {
        for (int s = 0; s < 4; s++) {
            RegisterSealer x = withSessions();
            x.create(5);
            Check.due("end " + s, x.end(s), true);
            Check.due("end " + s + " again", x.end(s), false);
            Check.due("quote in it", x.quote(s, 0, 0, 0), RegisterSealer.BAD);
            Check.due("prove in it", x.prove(5, s, 3, 0, 0), false);
            for (int other = 0; other < 4; other++) {
                long want = other == s ? RegisterSealer.NONE : Check.drawn(A, B, other + 1);
                Check.due("nonce " + other + " after end " + s, x.nonce(other), want);
            }
            for (int no : FAR) {
                Check.due("end " + no, x.end(no), false);
            }
            Check.due("end 4", x.end(4), false);
        }
    }

    private static void promise12Nonce() {
        RegisterSealer x = new RegisterSealer(A, B);
        x.create(5);
        x.begin(-9);
        Check.due("nonce", x.nonce(0), Check.drawn(A, B, 2));
        x.prove(5, 0, 3, 0, 0);
        Check.due("nonce after prove", x.nonce(0), Check.drawn(A, B, 2));
        x.quote(0, 0, 0, 0);
        Check.due("nonce after a command", x.nonce(0), Check.drawn(A, B, 3));
        for (int s = 1; s < 5; s++) {
            Check.due("nonce " + s + ", not there", x.nonce(s), RegisterSealer.NONE);
        }
        for (int no : FAR) {
            Check.due("nonce " + no, x.nonce(no), RegisterSealer.NONE);
        }
    }
}

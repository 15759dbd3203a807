/** Promises 13, 14 and 22: the proof that lies ready and the failures; and what proving does, at each command. */
public final class ProvingTest {
    private static final int A = 12;
    private static final int B = 34;
    private static final long SECRET = 555;
    private static final long CALLER = -808;
    private static final int[] NO_COMMANDS = {0, -1, 4, 5, Integer.MIN_VALUE, Integer.MAX_VALUE};

    public static void main(String[] args) {
        promise13RightWord();
        promise13EachPartCounts();
        promise13AnyMask();
        promise13Refused();
        promise13BlobWordNow();
        promise14Present();
        promise14ProofStays();
        promise22Failures();
        promise22RightMakesNone();
        promise22Locked();
        nonceDrawnOncePerProving();
        answersBeforeProvingChangeNothing();
        Check.finish();
    }

    /** With key 0, session 0 and blob 0, for which four words are drawn: name, nonce, next nonce, salt. */
    private static RegisterSealer ready() {
        RegisterSealer x = new RegisterSealer(A, B);
        x.create(SECRET);
        x.begin(CALLER);
        x.prove(SECRET, 0, 1, 5, 66);
        Check.due("seal to be ready", x.seal(0, 0, 5, 66), 0);
        return x;
    }

    private static long right(RegisterSealer x, long secret, int command, long parameter) {
        return Check.mac(secret, x.nonce(0), CALLER, command, parameter);
    }

    private static int ask(RegisterSealer x, int command) {
        switch (command) {
            case 1: return x.seal(0, 0, 3, 4);
            case 2: return x.unseal(0, 0);
            default: return x.quote(0, 0, 3, 4);
        }
    }

    private static long parameter(RegisterSealer x, int command) {
        return command == 2 ? x.blob(0, 5) : Check.hash(3, 4);
    }

    private static int answerWhenRight(int command) {
        return command == 1 ? 1 : 0;
    }

    private static void promise13RightWord() {
        for (int command = 1; command <= 3; command++) {
            RegisterSealer x = ready();
            int a = command == 2 ? 0 : 3;
            Check.due("prove " + command, x.prove(SECRET, 0, command, a, 4), true);
            Check.due("command " + command + " proven", ask(x, command), answerWhenRight(command));
            Check.due("command " + command + " proven once only", ask(x, command), RegisterSealer.DENIED);

            RegisterSealer y = ready();
            y.present(right(y, SECRET, command, parameter(y, command)));
            Check.due("command " + command + " with the reckoned word", ask(y, command), answerWhenRight(command));
        }
        RegisterSealer x = ready();
        Check.due("prove 2, b not looked at", x.prove(SECRET, 0, 2, 0, 123456789L), true);
        Check.due("unseal", x.unseal(0, 0), 0);
    }

    private static void promise13EachPartCounts() {
        for (int command = 1; command <= 3; command++) {
            RegisterSealer x = ready();
            x.create(SECRET + 1);
            x.begin(CALLER);
            int a = command == 2 ? 0 : 3;
            denied(x, command, "another secret", x.prove(SECRET + 1, 0, command, a, 4));
            denied(x, command, "another session", x.prove(SECRET, 1, command, a, 4));
            x = ready();
            denied(x, command, "another command", x.prove(SECRET, 0, command == 1 ? 3 : 1, 3, 4));
            if (command != 2) {
                denied(x, command, "another mask", x.prove(SECRET, 0, command, 2, 4));
                x = ready();
                denied(x, command, "another word", x.prove(SECRET, 0, command, 3, 5));
            }
        }
    }

    private static void denied(RegisterSealer x, int command, String why, boolean proved) {
        Check.due("prove with " + why, proved, true);
        Check.due("command " + command + " with " + why, ask(x, command), RegisterSealer.DENIED);
    }

    // No seal or quote takes such a mask, but each takes another word with which its parameter is the same.
    private static void promise13AnyMask() {
        int[] masks = {-1, 256, 259, Integer.MIN_VALUE, Integer.MAX_VALUE};
        for (int mask : masks) {
            for (int command = 1; command <= 3; command += 2) {
                RegisterSealer x = ready();
                long word = 4 ^ Check.fold(2, 3) ^ Check.fold(2, mask);
                Check.due("prove with mask " + mask, x.prove(SECRET, 0, command, mask, word), true);
                Check.due("command with the same parameter", ask(x, command), answerWhenRight(command));
            }
        }
    }

    private static void promise13Refused() {
        RegisterSealer x = ready();
        x.prove(SECRET, 0, 3, 3, 4);
        int[] noSessions = {-1, 1, 3, 4, Integer.MIN_VALUE, Integer.MAX_VALUE};
        for (int no : noSessions) {
            for (int command = 1; command <= 3; command++) {
                Check.due("prove in session " + no, x.prove(SECRET, no, command, 0, 4), false);
            }
        }
        for (int no : NO_COMMANDS) {
            Check.due("prove of command " + no, x.prove(SECRET, 0, no, 0, 4), false);
        }
        int[] noBlobs = {-1, 1, 9, 10, Integer.MIN_VALUE, Integer.MAX_VALUE};
        for (int no : noBlobs) {
            Check.due("prove with blob " + no, x.prove(SECRET, 0, 2, no, 4), false);
        }
        Check.due("the proof is as it was", x.quote(0, 0, 3, 4), 0);
    }

    private static void promise13BlobWordNow() {
        RegisterSealer x = ready();
        long seal = x.blob(0, 5);
        x.change(0, 5, 1);
        x.prove(SECRET, 0, 2, 0, 0);
        x.change(0, 5, seal);
        Check.due("unseal, proven for a changed word 5", x.unseal(0, 0), RegisterSealer.DENIED);
        x.prove(SECRET, 0, 2, 0, 0);
        x.change(0, 5, 1);
        x.change(0, 5, seal);
        Check.due("unseal, proven for the word 5 that it has", x.unseal(0, 0), 0);
    }

    private static void promise14Present() {
        RegisterSealer x = ready();
        x.prove(SECRET, 0, 3, 3, 4);
        x.present(17);
        Check.due("quote after present", x.quote(0, 0, 3, 4), RegisterSealer.DENIED);
        long[] words = {0, 1, -1, Long.MIN_VALUE, Long.MAX_VALUE};
        for (long word : words) {
            RegisterSealer y = ready();
            long good = right(y, SECRET, 3, Check.hash(3, 4));
            y.present(word);
            Check.due("quote with " + word, y.quote(0, 0, 3, 4), word == good ? 0 : RegisterSealer.DENIED);
            y.present(right(y, SECRET, 3, Check.hash(3, 4)));
            Check.due("quote with the right word", y.quote(0, 0, 3, 4), 0);
        }
    }

    // The word for a nonce that is drawn later lies ready through all that comes between, a reboot too.
    private static void promise14ProofStays() {
        RegisterSealer x = ready();
        long later = Check.drawn(A, B, 8);
        x.present(Check.mac(SECRET, later, CALLER, 3, Check.hash(3, 4)));
        Check.due("too early", x.quote(0, 0, 3, 4), RegisterSealer.DENIED);
        Check.due("nonce after it", x.nonce(0), Check.drawn(A, B, 5));
        x.locality(3);
        x.extend(7, 7);
        x.reset(7);
        x.create(1);
        x.destroy(1);
        x.change(0, 0, 0);
        Check.due("prove refused", x.prove(1, 3, 1, 0, 0), false);
        x.end(0);
        x.reboot();
        x.begin(1);
        x.begin(CALLER);
        Check.due("nonce at the time", x.nonce(1), later);
        Check.due("right at its time", x.quote(1, 0, 3, 4), 0);
    }

    private static void promise22Failures() {
        for (int command = 1; command <= 3; command++) {
            RegisterSealer x = ready();
            x.present(1);
            for (int n = 1; n <= 3; n++) {
                Check.due("wrong proof " + n, ask(x, command), RegisterSealer.DENIED);
                Check.due("failures", x.failures(), n);
            }
            Check.due("command after it", ask(x, command), RegisterSealer.LOCKED);
            Check.due("failures when locked", x.failures(), 3);
        }
    }

    private static void promise22RightMakesNone() {
        for (int command = 1; command <= 3; command++) {
            RegisterSealer x = ready();
            x.present(1);
            ask(x, command);
            ask(x, 3);
            Check.due("two failures", x.failures(), 2);
            x.prove(SECRET, 0, command, command == 2 ? 0 : 3, 4);
            Check.due("failures after prove", x.failures(), 2);
            Check.due("command " + command, ask(x, command), answerWhenRight(command));
            Check.due("failures after a right proof", x.failures(), 0);
        }
    }

    private static void promise22Locked() {
        RegisterSealer x = ready();
        for (int n = 0; n < 3; n++) {
            x.quote(0, 0, 3, 4);
        }
        for (int command = 1; command <= 3; command++) {
            long nonce = x.nonce(0);
            x.prove(SECRET, 0, command, command == 2 ? 0 : 3, 4);
            Check.due("command " + command + ", locked", ask(x, command), RegisterSealer.LOCKED);
            Check.due("nonce, locked", x.nonce(0), nonce);
        }
        Check.due("failures", x.failures(), 3);
        Check.due("BAD before LOCKED at seal", x.seal(0, 1, 0, 0), RegisterSealer.BAD);
        Check.due("BAD before LOCKED at unseal", x.unseal(0, 1), RegisterSealer.BAD);
        Check.due("BAD before LOCKED at quote", x.quote(1, 0, 0, 0), RegisterSealer.BAD);
        x.change(0, 5, 1);
        Check.due("LOCKED before BROKEN", x.unseal(0, 0), RegisterSealer.LOCKED);
        Check.due("create, locked", x.create(9), 1);
        Check.due("begin, locked", x.begin(9), 1);
        x.reboot();
        Check.due("failures after reboot", x.failures(), 0);
        x.begin(CALLER);
        x.prove(SECRET, 0, 3, 3, 4);
        Check.due("quote after reboot", x.quote(0, 0, 3, 4), 0);
    }

    private static void nonceDrawnOncePerProving() {
        for (int command = 1; command <= 3; command++) {
            RegisterSealer x = ready();
            x.begin(6);
            x.present(1);
            ask(x, command);
            Check.due("nonce after DENIED", x.nonce(0), Check.drawn(A, B, 6));
            x.prove(SECRET, 0, command, command == 2 ? 0 : 3, 4);
            ask(x, command);
            Check.due("nonce after a right proof", x.nonce(0), Check.drawn(A, B, 7));
            Check.due("another session's nonce", x.nonce(1), Check.drawn(A, B, 5));
            x.begin(6);
            Check.due("what is drawn next", x.nonce(2), Check.drawn(A, B, command == 1 ? 9 : 8));
        }
    }

    private static void answersBeforeProvingChangeNothing() {
        RegisterSealer x = ready();
        x.prove(SECRET, 0, 2, 0, 0);
        Check.due("unseal", x.unseal(0, 0), 0);
        Check.due("output", x.output(), 66);
        long nonce = x.nonce(0);
        x.prove(SECRET, 0, 3, 3, 4);
        x.change(0, 4, ~x.blob(0, 4));
        Check.due("BROKEN", x.unseal(0, 0), RegisterSealer.BROKEN);
        Check.due("BAD", x.unseal(0, 1), RegisterSealer.BAD);
        x.change(0, 4, ~x.blob(0, 4));
        Check.due("BAD", x.seal(0, 0, 256, 1), RegisterSealer.BAD);
        Check.due("BAD", x.quote(0, 6, 3, 4), RegisterSealer.BAD);
        Check.due("output as it was", x.output(), 66);
        Check.due("nonce", x.nonce(0), nonce);
        Check.due("failures", x.failures(), 0);
        Check.due("the proof still serves", x.quote(0, 0, 3, 4), 0);
    }
}

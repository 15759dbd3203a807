/**
 * "False, changing nothing", "FULL, changing nothing", "answers before proving change nothing", and that asking
 * changes nothing: each such call is made in several states, and then all that the state holds is looked at.
 */
public final class RefusedCallsTest {
    private static final int[] INTS = {-1, 0, 1, 2, 3, 4, 5, 6, 7, 8, 9, 10, 11, Integer.MIN_VALUE, Integer.MAX_VALUE};
    private static final int[] MASKS = {-1, 0, 1, 255, 256, Integer.MIN_VALUE, Integer.MAX_VALUE};
    private static final int[] SESSIONS = {-1, 0, 1, 3, 4, Integer.MIN_VALUE, Integer.MAX_VALUE};
    private static final int[] KEYS = {-1, 0, 1, 5, 6, Integer.MIN_VALUE, Integer.MAX_VALUE};
    private static final int[] COMMANDS = {-1, 0, 1, 2, 3, 4, Integer.MIN_VALUE, Integer.MAX_VALUE};
    private static final String[] STATES = {"new", "with gaps", "one less than full", "full", "failing", "locked"};
    private static final long[] SECRETS = {0, -1, 1234, Long.MIN_VALUE, Long.MAX_VALUE, 1};

    private interface Call {
        long on(RegisterSealer x);
    }

    public static void main(String[] args) {
        for (int state = 0; state < STATES.length; state++) {
            new RefusedCallsTest(state).refuseAll();
        }
        Check.finish();
    }

    private final int state;
    private final Model due;

    private RefusedCallsTest(int state) {
        this.state = state;
        due = make(state).due;
    }

    private static Watched make(int state) {
        switch (state) {
            case 0: return new Watched(3, 9);
            case 1: return withGaps();
            case 2: return filled(5, 3, 9);
            case 3: return filled(6, 4, 10);
            case 4: return failing(filled(6, 4, 9), 2);
            default: return failing(filled(6, 4, 10), 3);
        }
    }

    private static Watched filled(int keys, int sessions, int blobs) {
        Watched w = new Watched(-3, 1 << 30);
        for (int key = 0; key < keys; key++) {
            w.create(SECRETS[key]);
        }
        for (int session = 0; session < sessions; session++) {
            w.begin(700 - session);
        }
        w.locality(2);
        for (int p = 0; p < 6; p++) {
            w.extend(p, p);
        }
        for (int k = 0; k < blobs; k++) {
            w.seal(k % sessions, k % keys, 37 + k, 5000 + k);
        }
        w.unseal(0, 0, 0);
        w.present(8181);
        return w;
    }

    private static Watched withGaps() {
        Watched w = filled(5, 4, 4);
        w.locality(1);
        w.end(0);
        w.end(2);
        w.destroy(1);
        w.destroy(3);
        w.change(2, 4, 0);
        return w;
    }

    private static Watched failing(Watched w, int failures) {
        for (int n = 0; n < failures; n++) {
            w.fail(n, n);
        }
        return w;
    }

    private void leavesAll(String call, long want, Call made) {
        String text = "state " + STATES[state] + ", " + call;
        for (int ending = 0; ending < 2; ending++) {
            Watched w = make(state);
            Check.due(text, made.on(w.real), want);
            w.same(text);
            if (ending == 0) {
                w.endWithProof(text);
            } else {
                w.endWithSecrets(text);
            }
        }
    }

    private static long number(boolean answer) {
        return answer ? 1 : 0;
    }

    private void refuseAll() {
        promise2And3And4();
        promise7And8();
        promise10And11();
        promise13();
        promise15();
        promise16();
        promise17();
        promise20();
        askingChangesNothing();
    }

    private void promise2And3And4() {
        for (int p : INTS) {
            if (p < 0 || p > 3) {
                leavesAll("locality(" + p + ")", 0, x -> number(x.locality(p)));
            }
            boolean open = p >= 0 && p <= 7 && due.locality >= p / 2;
            if (!open) {
                leavesAll("extend(" + p + ")", 0, x -> number(x.extend(p, 7)));
            }
            if (!open || p < 4) {
                leavesAll("reset(" + p + ")", 0, x -> number(x.reset(p)));
            }
        }
    }

    private void promise7And8() {
        if (due.keys.size() == 6) {
            leavesAll("create", RegisterSealer.FULL, x -> x.create(7));
        }
        for (int key : INTS) {
            if (!due.keys.containsKey(key)) {
                leavesAll("destroy(" + key + ")", 0, x -> number(x.destroy(key)));
            }
        }
    }

    private void promise10And11() {
        if (due.sessions.size() == 4) {
            leavesAll("begin", RegisterSealer.FULL, x -> x.begin(7));
        }
        for (int session : INTS) {
            if (!due.sessions.containsKey(session)) {
                leavesAll("end(" + session + ")", 0, x -> number(x.end(session)));
            }
        }
    }

    private void promise13() {
        for (int session : SESSIONS) {
            for (int command : COMMANDS) {
                for (int a : INTS) {
                    boolean noBlob = command == 2 && (a < 0 || a >= due.blobs.size());
                    if (!due.sessions.containsKey(session) || command < 1 || command > 3 || noBlob) {
                        String call = "prove(0, " + session + ", " + command + ", " + a + ", 6)";
                        leavesAll(call, 0, x -> number(x.prove(0, session, command, a, 6)));
                    }
                }
            }
        }
    }

    private boolean isBad(int session, int key, int mask) {
        return !due.sessions.containsKey(session) || !due.keys.containsKey(key) || mask < 0 || mask > 255;
    }

    private int beforeProving(boolean bad, int last) {
        return bad ? RegisterSealer.BAD : due.failures == 3 ? RegisterSealer.LOCKED : last;
    }

    private void promise15() {
        for (int session : SESSIONS) {
            for (int key : KEYS) {
                for (int mask : MASKS) {
                    int full = due.blobs.size() == 10 ? RegisterSealer.FULL : 0;
                    int want = beforeProving(isBad(session, key, mask), full);
                    if (want != 0) {
                        String call = "seal(" + session + ", " + key + ", " + mask + ", 6)";
                        leavesAll(call, want, x -> x.seal(session, key, mask, 6));
                    }
                }
            }
        }
    }

    private int brokenOrGone(int blob) {
        if (blob < 0 || blob >= due.blobs.size()) {
            return 0;
        }
        long[] words = due.blobs.get(blob);
        if (words[5] != due.sealOf(words)) {
            return RegisterSealer.BROKEN;
        }
        return due.leastNamed(words[0]) == null ? RegisterSealer.GONE : 0;
    }

    private void promise16() {
        for (int session : SESSIONS) {
            for (int blob : INTS) {
                boolean bad = !due.sessions.containsKey(session) || blob < 0 || blob >= due.blobs.size();
                int want = beforeProving(bad, brokenOrGone(blob));
                if (want != 0) {
                    leavesAll("unseal(" + session + ", " + blob + ")", want, x -> x.unseal(session, blob));
                }
            }
        }
    }

    private void promise17() {
        for (int session : SESSIONS) {
            for (int key : KEYS) {
                for (int mask : MASKS) {
                    int want = beforeProving(isBad(session, key, mask), 0);
                    if (want != 0) {
                        String call = "quote(" + session + ", " + key + ", " + mask + ", 6)";
                        leavesAll(call, want, x -> x.quote(session, key, mask, 6));
                    }
                }
            }
        }
    }

    private void promise20() {
        for (int k : INTS) {
            for (int i : INTS) {
                if (!due.hasWord(k, i)) {
                    leavesAll("change(" + k + ", " + i + ")", 0, x -> number(x.change(k, i, 7)));
                }
            }
        }
    }

    private void askingChangesNothing() {
        leavesAll("output", due.output, x -> x.output());
        leavesAll("failures", due.failures, x -> x.failures());
        for (int n : INTS) {
            boolean there = due.sessions.containsKey(n);
            leavesAll("register(" + n + ")", n < 0 || n > 7 ? 0 : due.registers[n], x -> x.register(n));
            leavesAll("name(" + n + ")", due.name(n), x -> x.name(n));
            leavesAll("nonce(" + n + ")", there ? due.sessions.get(n).machine : 0, x -> x.nonce(n));
            for (int i : INTS) {
                leavesAll("blob(" + n + ", " + i + ")", due.hasWord(n, i) ? due.blobs.get(n)[i] : 0, x -> x.blob(n, i));
            }
        }
        for (int mask : MASKS) {
            leavesAll("digest(" + mask + ")", due.digest(mask), x -> x.digest(mask));
        }
    }
}

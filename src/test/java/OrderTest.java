/**
 * The order in which a command is answered, and what each answer changes: every combination of what may be wrong,
 * with the first that holds as the answer, and then a look at all that the state holds.
 */
public final class OrderTest {
    private static final int BAD = RegisterSealer.BAD;
    private static final int LOCKED = RegisterSealer.LOCKED;
    private static final int DENIED = RegisterSealer.DENIED;
    private static final long SECRET = 8642;
    private static final int[] FAILURES = {0, 2, 3};
    private static final int[] SESSIONS = {1, 2, -1, 4};
    private static final int[] KEYS = {1, 2, -1, 6};
    private static final int[] MASKS = {0, 255, -1, 256};
    private static final boolean[] EITHER = {true, false};
    private static final int WHOLE = 0;
    private static final int REGISTER_CHANGED = 1;
    private static final int DIGEST_CHANGED = 2;
    private static final int NO_MASK = 3;

    public static void main(String[] args) {
        seals();
        unseals();
        quotes();
        Check.finish();
    }

    /** With keys 0 and 1, sessions 0 and 1, and blobs that key 1 may take out. */
    private static Watched base(int blobs) {
        Watched w = new Watched(90, -91);
        w.create(13);
        w.create(SECRET);
        w.begin(20);
        w.begin(-21);
        w.locality(1);
        w.extend(0, 30);
        w.extend(2, 31);
        for (int k = 0; k < blobs; k++) {
            w.seal(0, 1, 5, 400 + k);
        }
        w.unseal(0, 1, 0);
        return w;
    }

    private static void fail(Watched w, int failures) {
        for (int n = 0; n < failures; n++) {
            w.fail(0, 0);
        }
    }

    private static void thenAll(Watched w, boolean proof, String when) {
        w.same(when);
        if (proof) {
            w.endWithProof(when);
        } else {
            w.endWithSecrets(when);
        }
    }

    private static boolean isThere(int number) {
        return number == 1;
    }

    private static boolean isMask(int mask) {
        return mask == 0 || mask == 255;
    }

    /** The proof for session 1 and key 1's secret, or one that is wrong. */
    private static void ready(Watched w, boolean right, int command, long parameter) {
        long proof = w.due.right(SECRET, w.due.sessions.get(1), command, parameter);
        w.present(right ? proof : proof + 1);
    }

    private static void dueAfterProving(Model due, boolean right) {
        due.sessions.get(1).machine = due.draw();
        due.failures = right ? 0 : due.failures + 1;
        due.output = right ? due.output : 0;
    }

    private static void seals() {
        for (int failures : FAILURES) {
            for (int session : SESSIONS) {
                for (int key : KEYS) {
                    for (int mask : MASKS) {
                        for (boolean right : EITHER) {
                            seal(9, failures, session, key, mask, right);
                            seal(10, failures, session, key, mask, right);
                        }
                    }
                }
            }
        }
    }

    private static int sealAnswer(int blobs, int failures, boolean good, boolean right) {
        if (!good) {
            return BAD;
        }
        if (failures == 3) {
            return LOCKED;
        }
        if (blobs == 10) {
            return RegisterSealer.FULL;
        }
        return right ? 9 : DENIED;
    }

    private static void seal(int blobs, int failures, int session, int key, int mask, boolean right) {
        String when = "seal(" + session + ", " + key + ", " + mask + ", 7) at " + blobs + " blobs, " + failures
            + " failures, proof " + (right ? "right" : "wrong");
        boolean good = isThere(session) && isThere(key) && isMask(mask);
        int want = sealAnswer(blobs, failures, good, right);
        for (boolean proof : EITHER) {
            Watched w = base(blobs);
            fail(w, failures);
            ready(w, right, 1, Check.hash(mask, 7));
            Check.due(when, w.real.seal(session, key, mask, 7), want);
            if (want == DENIED || want == 9) {
                dueAfterProving(w.due, right);
            }
            if (want == 9) {
                dueBlob(w.due, mask);
            }
            thenAll(w, proof, when);
        }
    }

    private static void dueBlob(Model due, int mask) {
        long digest = due.digest(mask);
        long salt = due.draw();
        long[] words = {due.name(1), mask, digest, salt, 7 ^ Check.hash(due.machineSecret, salt, digest), 0};
        words[5] = due.sealOf(words);
        due.blobs.add(words);
    }

    private static void unseals() {
        int[] blobs = {0, 1, 2, -1, 10};
        for (int failures : FAILURES) {
            for (int session : SESSIONS) {
                for (int blob : blobs) {
                    for (int policy = WHOLE; policy <= NO_MASK; policy++) {
                        for (int broken = -1; broken < 6; broken++) {
                            unseal(failures, session, blob, policy, broken);
                        }
                    }
                }
            }
        }
    }

    private static void unseal(int failures, int session, int blob, int policy, int broken) {
        for (boolean keyThere : EITHER) {
            for (boolean right : EITHER) {
                for (boolean proof : EITHER) {
                    unsealOnce(new int[] {failures, session, blob, policy, broken}, keyThere, right, proof);
                }
            }
        }
    }

    private static int unsealAnswer(int[] how, boolean keyThere, boolean right) {
        if (!isThere(how[1]) || how[2] < 0 || how[2] > 1) {
            return BAD;
        }
        if (how[0] == 3) {
            return LOCKED;
        }
        if (how[4] >= 0) {
            return RegisterSealer.BROKEN;
        }
        if (!keyThere) {
            return RegisterSealer.GONE;
        }
        if (!right) {
            return DENIED;
        }
        return how[3] == WHOLE ? 0 : RegisterSealer.POLICY;
    }

    private static void unsealOnce(int[] how, boolean keyThere, boolean right, boolean proof) {
        int blob = Math.min(1, Math.max(0, how[2]));
        String when = "unseal(" + how[1] + ", " + how[2] + ") with " + how[0] + " failures, policy " + how[3]
            + ", word changed " + how[4] + ", key " + (keyThere ? "there" : "gone") + ", proof "
            + (right ? "right" : "wrong");
        Watched w = base(2);
        fail(w, how[0]);
        breakPolicy(w, blob, how[3]);
        if (how[4] >= 0) {
            w.change(blob, how[4], w.due.blobs.get(blob)[how[4]] ^ Long.MIN_VALUE);
        }
        if (!keyThere) {
            w.destroy(1);
        }
        ready(w, right, 2, w.due.blobs.get(blob)[5]);
        int want = unsealAnswer(how, keyThere, right);
        Check.due(when, w.real.unseal(how[1], how[2]), want);
        if (want == DENIED || want == RegisterSealer.POLICY || want == 0) {
            dueAfterProving(w.due, right);
            w.due.output = want == 0 ? 400 + blob : 0;
        }
        thenAll(w, proof, when);
    }

    private static void breakPolicy(Watched w, int blob, int policy) {
        switch (policy) {
            case REGISTER_CHANGED:
                w.extend(2, 1);
                break;
            case DIGEST_CHANGED:
                w.change(blob, 2, w.due.digest(5) + 1);
                w.makeSealRight(blob);
                break;
            case NO_MASK:
                w.change(blob, 1, 256);
                w.change(blob, 2, 0);
                w.makeSealRight(blob);
                break;
            default:
                break;
        }
    }

    private static void quotes() {
        for (int failures : FAILURES) {
            for (int session : SESSIONS) {
                for (int key : KEYS) {
                    for (int mask : MASKS) {
                        for (boolean right : EITHER) {
                            quote(failures, session, key, mask, right);
                        }
                    }
                }
            }
        }
    }

    private static void quote(int failures, int session, int key, int mask, boolean right) {
        String when = "quote(" + session + ", " + key + ", " + mask + ", 7) with " + failures + " failures, proof "
            + (right ? "right" : "wrong");
        boolean good = isThere(session) && isThere(key) && isMask(mask);
        int want = !good ? BAD : failures == 3 ? LOCKED : right ? 0 : DENIED;
        for (boolean proof : EITHER) {
            Watched w = base(10);
            fail(w, failures);
            ready(w, right, 3, Check.hash(mask, 7));
            Check.due(when, w.real.quote(session, key, mask, 7), want);
            if (want == DENIED || want == 0) {
                dueAfterProving(w.due, right);
            }
            if (want == 0) {
                w.due.output = Check.mac(SECRET, mask, w.due.digest(mask), 7);
            }
            thenAll(w, proof, when);
        }
    }
}

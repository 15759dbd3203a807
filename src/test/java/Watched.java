/** An object and, beside it, the state that is due for it: calls made here are made on both. */
final class Watched {
    private static final long[] NO_WORDS = new long[6];

    final RegisterSealer real;
    final Model due;

    Watched(int a, int b) {
        real = new RegisterSealer(a, b);
        due = new Model(a, b);
    }

    void create(long secret) {
        Check.due("create", real.create(secret), due.create(secret));
    }

    void destroy(int key) {
        Check.due("destroy", real.destroy(key), due.keys.remove(key) != null);
    }

    void begin(long nonce) {
        Check.due("begin", real.begin(nonce), due.begin(nonce));
    }

    void end(int session) {
        Check.due("end", real.end(session), due.sessions.remove(session) != null);
    }

    void locality(int l) {
        Check.due("locality", real.locality(l), due.locality(l));
    }

    void extend(int p, long v) {
        Check.due("extend", real.extend(p, v), due.extend(p, v));
    }

    void change(int k, int i, long v) {
        Check.due("change", real.change(k, i, v), due.change(k, i, v));
    }

    void present(long proof) {
        real.present(proof);
        due.proof = proof;
    }

    void reboot() {
        real.reboot();
        due.reboot();
    }

    /** Makes the seal of a blob right again for the words that it has now. */
    void makeSealRight(int blob) {
        change(blob, 5, due.sealOf(due.blobs.get(blob)));
    }

    /** The proof that is right, reckoned from the state that is due. */
    long right(int session, int key, int command, long parameter) {
        return due.right(due.keys.get(key).secret, due.sessions.get(session), command, parameter);
    }

    void seal(int session, int key, int mask, long data) {
        present(right(session, key, 1, Check.hash(mask, data)));
        Check.due("seal", real.seal(session, key, mask, data), due.seal(session, key, mask, data));
    }

    void unseal(int session, int key, int blob) {
        present(right(session, key, 2, due.blobs.get(blob)[5]));
        Check.due("unseal", real.unseal(session, blob), due.unseal(session, blob));
    }

    void fail(int session, int key) {
        present(~right(session, key, 3, Check.hash(0, 0)));
        Check.due("quote, not proven", real.quote(session, key, 0, 0), due.quote(session, key, 0, 0));
    }

    /** Compares all words that calls show without changing anything. */
    void same(String when) {
        for (int p = 0; p < 8; p++) {
            Check.due(when + ": register " + p, real.register(p), due.registers[p]);
        }
        for (int key = 0; key < 6; key++) {
            Check.due(when + ": name " + key, real.name(key), due.name(key));
        }
        for (int session = 0; session < 4; session++) {
            boolean there = due.sessions.containsKey(session);
            Check.due(when + ": nonce " + session, real.nonce(session), there ? due.sessions.get(session).machine : 0);
        }
        for (int k = 0; k < 10; k++) {
            long[] words = k < due.blobs.size() ? due.blobs.get(k) : NO_WORDS;
            for (int i = 0; i < 6; i++) {
                Check.due(when + ": blob(" + k + ", " + i + ")", real.blob(k, i), words[i]);
            }
        }
        Check.due(when + ": output", real.output(), due.output);
        Check.due(when + ": failures", real.failures(), due.failures);
    }

    /** Ends the object's use: looks whether the locality, the number of blobs, DRAWN and the proof are as is due. */
    void endWithProof(String when) {
        for (int p = 0; p < 8; p++) {
            Check.due(when + ": then extend " + p, real.extend(p, 1), due.locality >= p / 2);
        }
        for (int k = 0; k < 11; k++) {
            Check.due(when + ": then change of blob " + k, real.change(k, 0, 1), k < due.blobs.size());
        }
        real.reboot();
        real.destroy(0);
        Check.due(when + ": then create", real.create(4242), 0);
        Check.due(when + ": what that draws", real.name(0), Check.hash(4242, due.draw()));
        long nonce = due.draw();
        long parameter = Check.hash(0, 9);
        real.begin(Check.callerNonceFor(due.proof, 4242, nonce, 3, parameter));
        Check.due(when + ": then a quote for which the proof that lay ready is right", real.quote(0, 0, 0, 9), 0);
    }

    /** Ends the object's use: looks whether keys and sessions that are there have the secrets and caller's nonces due. */
    void endWithSecrets(String when) {
        if (due.failures == 3) {
            reboot();
            begin(5);
        }
        for (int session : due.sessions.keySet()) {
            for (int key : due.keys.keySet()) {
                present(right(session, key, 3, Check.hash(0, 9)));
                String quote = when + ": then a quote in session " + session + " with key " + key;
                Check.due(quote, real.quote(session, key, 0, 9), due.quote(session, key, 0, 9));
                Check.due(quote + " that is right", real.output(), due.output);
            }
        }
        for (int session = 0; session < 4; session++) {
            Check.due(when + ": then end " + session, real.end(session), due.sessions.containsKey(session));
        }
        for (int key = 0; key < 6; key++) {
            Check.due(when + ": then destroy " + key, real.destroy(key), due.keys.containsKey(key));
        }
    }
}

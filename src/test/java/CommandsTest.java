/** Promises 15 to 18: seal, unseal and quote, each with the order of its answers, and the output. */
public final class CommandsTest {
    private static final int A = -70;
    private static final int B = 71;
    private static final long MACHINE = Check.hash(A, B);
    private static final long SECRET = 900;
    private static final int[] NO_KEYS = {-1, 1, 5, 6, Integer.MIN_VALUE, Integer.MAX_VALUE};
    private static final int[] NO_SESSIONS = {-1, 1, 3, 4, Integer.MIN_VALUE, Integer.MAX_VALUE};
    private static final int[] NO_MASKS = {-1, 256, Integer.MIN_VALUE, Integer.MAX_VALUE};
    private static final long[] WORDS = {0, 1, -1, 777, Long.MIN_VALUE, Long.MAX_VALUE};

    public static void main(String[] args) {
        promise15Blob();
        promise15Bad();
        promise15Full();
        promise15OutputStays();
        promise16ComesOut();
        promise16Bad();
        promise16Broken();
        promise16Gone();
        promise16LeastOfOneName();
        promise16NameThatIsZero();
        promise16Denied();
        promise16Policy();
        promise16PolicyNoMask();
        promise16AllFromTheBlob();
        promise17Signature();
        promise17Bad();
        promise17Denied();
        promise18Output();
        Check.finish();
    }

    private static RegisterSealer ready() {
        RegisterSealer x = new RegisterSealer(A, B);
        x.create(SECRET);
        x.begin(44);
        x.extend(0, 10);
        x.extend(1, 11);
        return x;
    }

    private static int seal(RegisterSealer x, int mask, long data) {
        x.prove(SECRET, 0, 1, mask, data);
        return x.seal(0, 0, mask, data);
    }

    private static int unseal(RegisterSealer x, int blob) {
        x.prove(SECRET, 0, 2, blob, 0);
        return x.unseal(0, blob);
    }

    private static int quote(RegisterSealer x, int mask, long challenge) {
        x.prove(SECRET, 0, 3, mask, challenge);
        return x.quote(0, 0, mask, challenge);
    }

    private static void makeSealRight(RegisterSealer x, int blob) {
        long word = Check.mac(MACHINE, x.blob(blob, 0), x.blob(blob, 1), x.blob(blob, 2), x.blob(blob, 3),
            x.blob(blob, 4));
        x.change(blob, 5, word);
    }

    private static void promise15Blob() {
        for (int mask = 0; mask < 256; mask += 51) {
            RegisterSealer x = ready();
            for (int k = 0; k < 6; k++) {
                long digest = x.digest(mask);
                long salt = Check.drawn(A, B, 4 + 2 * k);
                long cipher = WORDS[k] ^ Check.hash(MACHINE, salt, digest);
                Check.due("seal " + k, seal(x, mask, WORDS[k]), k);
                Check.due("nonce, drawn before the salt", x.nonce(0), Check.drawn(A, B, 3 + 2 * k));
                Check.due("word 0", x.blob(k, 0), x.name(0));
                Check.due("word 1", x.blob(k, 1), mask);
                Check.due("word 2", x.blob(k, 2), digest);
                Check.due("word 3", x.blob(k, 3), salt);
                Check.due("word 4", x.blob(k, 4), cipher);
                Check.due("word 5", x.blob(k, 5), Check.mac(MACHINE, x.name(0), mask, digest, salt, cipher));
                x.extend(0, k);
            }
        }
    }

    private static void promise15Bad() {
        RegisterSealer x = ready();
        x.prove(SECRET, 0, 1, 3, 9);
        for (int no : NO_SESSIONS) {
            Check.due("seal in session " + no, x.seal(no, 0, 3, 9), RegisterSealer.BAD);
        }
        for (int no : NO_KEYS) {
            Check.due("seal with key " + no, x.seal(0, no, 3, 9), RegisterSealer.BAD);
        }
        for (int no : NO_MASKS) {
            Check.due("seal with mask " + no, x.seal(0, 0, no, 9), RegisterSealer.BAD);
        }
        Check.due("blob after BAD", x.change(0, 0, 1), false);
        Check.due("seal after BAD", x.seal(0, 0, 3, 9), 0);
    }

    private static void promise15Full() {
        RegisterSealer x = ready();
        for (int k = 0; k < 10; k++) {
            Check.due("seal " + k, seal(x, 1, k), k);
        }
        long nonce = x.nonce(0);
        Check.due("seal beyond ten", seal(x, 1, 5), RegisterSealer.FULL);
        x.present(3);
        Check.due("FULL before DENIED", x.seal(0, 0, 1, 5), RegisterSealer.FULL);
        Check.due("BAD before FULL", x.seal(0, 1, 1, 5), RegisterSealer.BAD);
        Check.due("nonce after FULL", x.nonce(0), nonce);
        Check.due("failures after FULL", x.failures(), 0);
        Check.due("no blob 10", x.change(10, 0, 0), false);
        for (int k = 0; k < 10; k++) {
            Check.due("unseal " + k, unseal(x, k), 0);
            Check.due("data of " + k, x.output(), k);
        }
        for (int n = 0; n < 3; n++) {
            x.quote(0, 0, 0, 0);
        }
        Check.due("LOCKED before FULL", x.seal(0, 0, 1, 5), RegisterSealer.LOCKED);
    }

    private static void promise15OutputStays() {
        RegisterSealer x = ready();
        seal(x, 3, 50);
        unseal(x, 0);
        seal(x, 3, 60);
        Check.due("output after seal", x.output(), 50);
        x.present(1);
        Check.due("seal with a wrong proof", x.seal(0, 0, 3, 1), RegisterSealer.DENIED);
        Check.due("output after DENIED", x.output(), 0);
        Check.due("blob after DENIED", x.change(2, 0, 0), false);
        Check.due("next blob", seal(x, 3, 2), 2);
    }

    private static void promise16ComesOut() {
        for (long data : WORDS) {
            RegisterSealer x = ready();
            seal(x, 3, data);
            Check.due("unseal", unseal(x, 0), 0);
            Check.due("output", x.output(), data);
            x.locality(3);
            x.extend(7, 1);
            Check.due("unseal with other registers changed", unseal(x, 0), 0);
            Check.due("output again", x.output(), data);
            x.end(0);
            x.begin(1234567);
            Check.due("unseal in another session", unseal(x, 0), 0);
            Check.due("output there", x.output(), data);
        }
    }

    private static void promise16Bad() {
        RegisterSealer x = ready();
        seal(x, 3, 50);
        x.prove(SECRET, 0, 2, 0, 0);
        for (int no : NO_SESSIONS) {
            Check.due("unseal in session " + no, x.unseal(no, 0), RegisterSealer.BAD);
        }
        int[] noBlobs = {-1, 1, 9, 10, Integer.MIN_VALUE, Integer.MAX_VALUE};
        for (int no : noBlobs) {
            Check.due("unseal of blob " + no, x.unseal(0, no), RegisterSealer.BAD);
        }
        Check.due("unseal after BAD", x.unseal(0, 0), 0);
    }

    private static void promise16Broken() {
        for (int i = 0; i < 6; i++) {
            RegisterSealer x = ready();
            seal(x, 3, 50);
            long word = x.blob(0, i);
            x.change(0, i, word + 1);
            Check.due("unseal with word " + i + " changed", unseal(x, 0), RegisterSealer.BROKEN);
            x.destroy(0);
            Check.due("BROKEN before GONE", x.unseal(0, 0), RegisterSealer.BROKEN);
            Check.due("failures after BROKEN", x.failures(), 0);
            Check.due("nonce after BROKEN", x.nonce(0), Check.drawn(A, B, 3));
        }
        RegisterSealer x = ready();
        seal(x, 3, 50);
        long word = x.blob(0, 4);
        x.change(0, 4, 0);
        x.change(0, 4, word);
        Check.due("unseal with the word put back", unseal(x, 0), 0);
    }

    private static void promise16Gone() {
        RegisterSealer x = ready();
        seal(x, 3, 50);
        unseal(x, 0);
        x.create(SECRET);
        x.destroy(0);
        long nonce = x.nonce(0);
        Check.due("unseal with the key destroyed", unseal(x, 0), RegisterSealer.GONE);
        x.present(1);
        Check.due("GONE before DENIED", x.unseal(0, 0), RegisterSealer.GONE);
        x.create(SECRET);
        Check.due("a key with the secret and another name", unseal(x, 0), RegisterSealer.GONE);
        Check.due("output after GONE", x.output(), 50);
        Check.due("nonce after GONE", x.nonce(0), nonce);
        Check.due("failures after GONE", x.failures(), 0);
        x.change(0, 0, x.name(1));
        makeSealRight(x, 0);
        Check.due("a blob with the name of key 1", unseal(x, 0), 0);
    }

    private static void promise16LeastOfOneName() {
        RegisterSealer x = ready();
        seal(x, 3, 50);
        long twin = Check.secretForName(x.name(0), Check.drawn(A, B, 5));
        x.create(twin);
        Check.due("name of the twin", x.name(1), x.name(0));
        x.prove(twin, 0, 2, 0, 0);
        Check.due("unseal with the greater one's secret", x.unseal(0, 0), RegisterSealer.DENIED);
        Check.due("unseal with the least one's secret", unseal(x, 0), 0);
        x.destroy(0);
        Check.due("unseal with a secret that is gone", unseal(x, 0), RegisterSealer.DENIED);
        x.prove(twin, 0, 2, 0, 0);
        Check.due("unseal with the one that is left", x.unseal(0, 0), 0);
        Check.due("output", x.output(), 50);
    }

    private static void promise16NameThatIsZero() {
        RegisterSealer x = ready();
        seal(x, 3, 50);
        x.change(0, 0, 0);
        makeSealRight(x, 0);
        Check.due("name 0 is no key's", unseal(x, 0), RegisterSealer.GONE);
        long secret = Check.secretForName(0, Check.drawn(A, B, 5));
        x.create(secret);
        Check.due("name of key 1", x.name(1), 0);
        x.prove(secret, 0, 2, 0, 0);
        Check.due("name 0 is key 1's", x.unseal(0, 0), 0);
        Check.due("output", x.output(), 50);
    }

    private static void promise16Denied() {
        RegisterSealer x = ready();
        seal(x, 3, 50);
        unseal(x, 0);
        x.extend(0, 1);
        Check.due("DENIED before POLICY", x.unseal(0, 0), RegisterSealer.DENIED);
        Check.due("output after DENIED", x.output(), 0);
        Check.due("failures after DENIED", x.failures(), 1);
    }

    private static void promise16Policy() {
        for (int p = 0; p < 8; p++) {
            for (int chosen = 0; chosen < 2; chosen++) {
                RegisterSealer x = ready();
                seal(x, 0, 1);
                int mask = chosen == 1 ? 1 << p : 255 - (1 << p);
                seal(x, mask, 60);
                unseal(x, 0);
                x.locality(3);
                x.extend(p, 5);
                int want = chosen == 1 ? RegisterSealer.POLICY : 0;
                Check.due("unseal of mask " + mask + ", register " + p + " extended", unseal(x, 1), want);
                Check.due("output", x.output(), chosen == 1 ? 0 : 60);
            }
        }
        RegisterSealer x = ready();
        seal(x, 3, 50);
        x.extend(0, 1);
        x.present(0);
        x.quote(0, 0, 0, 0);
        long nextNonce = Check.drawn(A, B, 6);
        Check.due("unseal with a register extended", unseal(x, 0), RegisterSealer.POLICY);
        Check.due("failures after POLICY", x.failures(), 0);
        Check.due("nonce after POLICY", x.nonce(0), nextNonce);
        x.reboot();
        x.begin(1);
        x.extend(0, 10);
        x.extend(1, 11);
        Check.due("unseal with the registers as they were", unseal(x, 0), 0);
        Check.due("output", x.output(), 50);
    }

    private static void promise16PolicyNoMask() {
        long[] masks = {-1, 256, 259, 3 + (1L << 32), Long.MIN_VALUE + 3, Long.MIN_VALUE, Long.MAX_VALUE};
        for (long mask : masks) {
            for (int digest = 0; digest < 2; digest++) {
                RegisterSealer x = ready();
                seal(x, 3, 50);
                unseal(x, 0);
                x.change(0, 1, mask);
                if (digest == 1) {
                    x.change(0, 2, 0);
                }
                makeSealRight(x, 0);
                Check.due("unseal with " + mask + " as mask", unseal(x, 0), RegisterSealer.POLICY);
                Check.due("output", x.output(), 0);
            }
        }
    }

    private static void promise16AllFromTheBlob() {
        RegisterSealer x = ready();
        seal(x, 3, 50);
        x.change(0, 1, 1);
        x.change(0, 2, x.digest(1));
        x.change(0, 3, -8);
        x.change(0, 4, 1000);
        makeSealRight(x, 0);
        Check.due("unseal of a blob made outside", unseal(x, 0), 0);
        Check.due("output", x.output(), 1000 ^ Check.hash(MACHINE, -8, x.digest(1)));
    }

    private static void promise17Signature() {
        for (int mask = 0; mask < 256; mask += 5) {
            RegisterSealer x = ready();
            x.locality(3);
            x.extend(7, 2);
            for (long challenge : WORDS) {
                Check.due("quote", quote(x, mask, challenge), 0);
                Check.due("output", x.output(), Check.mac(SECRET, mask, x.digest(mask), challenge));
            }
        }
        RegisterSealer x = ready();
        x.create(31);
        x.prove(31, 0, 3, 2, 8);
        Check.due("quote with key 1", x.quote(0, 1, 2, 8), 0);
        Check.due("output", x.output(), Check.mac(31, 2, x.digest(2), 8));
    }

    private static void promise17Bad() {
        RegisterSealer x = ready();
        x.prove(SECRET, 0, 3, 3, 9);
        for (int no : NO_SESSIONS) {
            Check.due("quote in session " + no, x.quote(no, 0, 3, 9), RegisterSealer.BAD);
        }
        for (int no : NO_KEYS) {
            Check.due("quote with key " + no, x.quote(0, no, 3, 9), RegisterSealer.BAD);
        }
        for (int no : NO_MASKS) {
            Check.due("quote with mask " + no, x.quote(0, 0, no, 9), RegisterSealer.BAD);
        }
        Check.due("quote after BAD", x.quote(0, 0, 3, 9), 0);
    }

    private static void promise17Denied() {
        RegisterSealer x = ready();
        quote(x, 3, 9);
        Check.differs("output and none", x.output(), 0);
        Check.due("quote with an old proof", x.quote(0, 0, 3, 9), RegisterSealer.DENIED);
        Check.due("output after DENIED", x.output(), 0);
        x.create(31);
        x.prove(SECRET, 0, 3, 3, 9);
        Check.due("quote with another key", x.quote(0, 1, 3, 9), RegisterSealer.DENIED);
    }

    private static void promise18Output() {
        RegisterSealer x = ready();
        Check.due("output at first", x.output(), 0);
        quote(x, 3, 9);
        long signed = x.output();
        Check.due("output", signed, Check.mac(SECRET, 3, x.digest(3), 9));
        x.extend(0, 1);
        x.locality(2);
        x.reset(4);
        x.create(5);
        x.destroy(1);
        x.begin(5);
        x.end(1);
        x.present(5);
        x.change(0, 0, 0);
        x.seal(0, 1, 0, 0);
        Check.due("output stays", x.output(), signed);
        seal(x, 1, 70);
        Check.due("output stays at seal", x.output(), signed);
        unseal(x, 0);
        Check.due("output of unseal", x.output(), 70);
    }
}

import java.math.BigInteger;

/** The document's 'Terms': reckoning that wraps, what is 0 at first, what draws and how often, and words that are 0. */
public final class TermsTest {
    private static final BigInteger FACTOR = BigInteger.valueOf(3141592653589793239L);
    private static final BigInteger WORDS = BigInteger.ONE.shiftLeft(64);
    private static final long[] EXTREMES = {0, 1, -1, Long.MIN_VALUE, Long.MIN_VALUE + 1, Long.MAX_VALUE,
        Long.MAX_VALUE - 1, 1L << 31, 1L << 32, -(1L << 32), 1L << 29, (1L << 35) - 1, 3141592653589793239L};
    private static final int[] INTS = {0, 1, -1, Integer.MIN_VALUE, Integer.MAX_VALUE};

    private interface Act {
        void on(Watched w);
    }

    public static void main(String[] args) {
        hashOfTwoWraps();
        hashTakesAnIntAsItsWord();
        digestWraps();
        macWraps();
        drawnIsZeroAtFirst();
        drawnIsOneMoreEachTime();
        whatDraws();
        whatDrawsNot();
        localityIsZeroAtFirst();
        proofIsZeroAtFirst();
        outputIsZeroAtFirst();
        machineSecretOfZero();
        drawnWordOfZero();
        nonceAndSaltOfZero();
        secretAndCallersNonceOfZero();
        blobWordsOfZero();
        objectsAreApart();
        Check.finish();
    }

    // FOLD and HASH without a word that could wrap: whole numbers, brought back below 2^64.
    private static BigInteger unsigned(long word) {
        return BigInteger.valueOf(word).mod(WORDS);
    }

    private static long bigHash(long... words) {
        BigInteger h = BigInteger.valueOf(words.length);
        for (long word : words) {
            BigInteger x = h.xor(unsigned(word)).multiply(FACTOR).mod(WORDS);
            h = x.xor(x.divide(BigInteger.ONE.shiftLeft(29)));
        }
        return h.longValue();
    }

    private static long bigMac(long k, long... words) {
        long[] inner = new long[words.length + 1];
        inner[0] = k ^ 92;
        System.arraycopy(words, 0, inner, 1, words.length);
        return bigHash(k ^ 54, bigHash(inner));
    }

    private static void hashOfTwoWraps() {
        RegisterSealer x = new RegisterSealer(0, 0);
        long word = 0;
        for (long v : EXTREMES) {
            x.extend(0, v);
            word = bigHash(word, v);
            Check.due("register 0 extended by " + v, x.register(0), word);
        }
    }

    private static void hashTakesAnIntAsItsWord() {
        for (int a : INTS) {
            for (int b : INTS) {
                RegisterSealer x = new RegisterSealer(a, b);
                x.begin(0);
                Check.due("drawn by (" + a + ", " + b + ")", x.nonce(0), bigHash(bigHash(a, b), 1));
            }
        }
    }

    private static void digestWraps() {
        RegisterSealer x = new RegisterSealer(0, 0);
        x.locality(3);
        for (int p = 0; p < 8; p++) {
            x.extend(p, EXTREMES[p]);
        }
        long[] all = new long[9];
        all[0] = 255;
        for (int p = 0; p < 8; p++) {
            all[p + 1] = x.register(p);
            Check.due("digest of register " + p + " alone", x.digest(1 << p), bigHash(1 << p, all[p + 1]));
        }
        Check.due("digest of no register: one word", x.digest(0), bigHash(0));
        Check.due("digest of all registers: nine words", x.digest(255), bigHash(all));
        Check.due("digest of the outer two, in ascending order", x.digest(129), bigHash(129, all[1], all[8]));
    }

    private static void macWraps() {
        for (long secret : EXTREMES) {
            for (long challenge : EXTREMES) {
                RegisterSealer x = new RegisterSealer(1, 2);
                x.create(secret);
                x.begin(challenge);
                x.present(bigMac(secret, x.nonce(0), challenge, 3, bigHash(255, challenge)));
                Check.due("quote proven with a reckoned word", x.quote(0, 0, 255, challenge), 0);
                Check.due("its output", x.output(), bigMac(secret, 255, x.digest(255), challenge));
            }
        }
    }

    private static void drawnIsZeroAtFirst() {
        RegisterSealer x = new RegisterSealer(5, 6);
        x.begin(0);
        Check.due("first word drawn, at begin", x.nonce(0), Check.hash(Check.hash(5, 6), 1));
        RegisterSealer y = new RegisterSealer(5, 6);
        y.create(7);
        Check.due("first word drawn, at create", y.name(0), Check.hash(7, Check.hash(Check.hash(5, 6), 1)));
    }

    private static void drawnIsOneMoreEachTime() {
        RegisterSealer x = new RegisterSealer(5, 6);
        for (int n = 1; n <= 170; n++) {
            x.begin(n);
            Check.due("word drawn as number " + n, x.nonce(0), Check.drawn(5, 6, n));
            x.end(0);
        }
    }

    /** With a key, a session, a blob and a proof ready for unsealing it. */
    private static Watched ready() {
        Watched w = new Watched(15, 16);
        w.create(1001);
        w.begin(1002);
        w.seal(0, 0, 1, 1003);
        w.present(w.right(0, 0, 2, w.due.blobs.get(0)[5]));
        return w;
    }

    private static void draws(String what, int words, Act act) {
        Watched w = ready();
        long before = w.due.drawn;
        act.on(w);
        Check.due(what + ": then begin", w.real.begin(0), 1);
        long next = Check.hash(w.due.machineSecret, before + words + 1);
        Check.due(what + " draws " + words + ": the word after them", w.real.nonce(1), next);
    }

    private static void whatDraws() {
        draws("create", 1, w -> w.real.create(3));
        draws("begin and end", 1, w -> {
            w.real.begin(3);
            w.real.end(1);
        });
        draws("seal, not proven", 1, w -> w.real.seal(0, 0, 1, 3));
        draws("unseal, not proven", 1, w -> {
            w.real.present(3);
            w.real.unseal(0, 0);
        });
        draws("quote, not proven", 1, w -> w.real.quote(0, 0, 1, 3));
        draws("seal, proven", 2, w -> w.seal(0, 0, 1, 3));
        draws("unseal, proven", 1, w -> w.unseal(0, 0, 0));
        draws("unseal, proven, POLICY", 1, w -> {
            w.extend(0, 3);
            w.unseal(0, 0, 0);
        });
        draws("quote, proven", 1, w -> {
            w.present(w.right(0, 0, 3, Check.hash(1, 3)));
            w.real.quote(0, 0, 1, 3);
        });
    }

    private static void whatDrawsNot() {
        draws("locality", 0, w -> w.real.locality(3));
        draws("extend", 0, w -> w.real.extend(0, 3));
        draws("reset", 0, w -> {
            w.real.locality(3);
            w.real.reset(7);
        });
        draws("destroy", 0, w -> w.real.destroy(0));
        draws("prove", 0, w -> w.real.prove(1, 0, 1, 1, 1));
        draws("present", 0, w -> w.real.present(1));
        draws("change", 0, w -> w.real.change(0, 0, 1));
        RegisterSealer x = ready().real;
        x.reboot();
        Check.due("begin after reboot", x.begin(0), 0);
        Check.due("reboot draws none: the fifth word", x.nonce(0), Check.drawn(15, 16, 5));
    }

    private static void localityIsZeroAtFirst() {
        for (int p = 0; p < 8; p++) {
            RegisterSealer x = new RegisterSealer(1, 2);
            Check.due("extend " + p + " of a new object", x.extend(p, 1), p < 2);
            Check.due("reset " + p + " of a new object", x.reset(p), false);
        }
    }

    // Nothing is proven or presented: the caller's nonce is such that the right proof is the word 0.
    private static void proofIsZeroAtFirst() {
        for (int command = 1; command <= 3; command += 2) {
            RegisterSealer x = new RegisterSealer(50, 60);
            x.create(9);
            x.begin(Check.callerNonceFor(0, 9, Check.drawn(50, 60, 2), command, Check.hash(1, 8)));
            Check.due("command " + command, command == 1 ? x.seal(0, 0, 1, 8) : x.quote(0, 0, 1, 8), 0);
            Check.due("command " + command + " again", x.quote(0, 0, 1, 8), RegisterSealer.DENIED);
        }
        RegisterSealer x = new RegisterSealer(50, 60);
        x.create(9);
        x.present(1);
        x.present(0);
        x.begin(Check.callerNonceFor(0, 9, Check.drawn(50, 60, 2), 3, Check.hash(1, 8)));
        Check.due("quote with 0 presented", x.quote(0, 0, 1, 8), 0);
    }

    private static void outputIsZeroAtFirst() {
        for (int n : INTS) {
            Check.due("output of a new object", new RegisterSealer(n, ~n).output(), 0);
        }
    }

    // HASH(2, 0) is 0, as HASH begins with 2.
    private static void machineSecretOfZero() {
        Watched w = new Watched(2, 0);
        Check.due("HASH(2, 0)", w.due.machineSecret, 0);
        w.create(1);
        w.begin(2);
        w.seal(0, 0, 255, 3);
        w.unseal(0, 0, 0);
        w.same("machine secret 0");
        Check.due("output", w.real.output(), 3);
    }

    // For these two numbers the first word drawn is 0, for the ones further down the third and the fourth.
    private static void drawnWordOfZero() {
        Watched w = new Watched(649770231, -424255970);
        w.begin(77);
        Check.due("the nonce", w.real.nonce(0), 0);
        w.begin(78);
        Check.due("the nonce of the session behind it", w.real.nonce(1), Check.hash(w.due.machineSecret, 2));
        w.create(5);
        w.present(w.right(0, 0, 3, Check.hash(0, 1)));
        Check.due("quote in its session", w.real.quote(0, 0, 0, 1), 0);
        Check.due("end", w.real.end(0), true);
        Watched v = new Watched(649770231, -424255970);
        v.create(5);
        Check.due("the name", v.real.name(0), Check.hash(5, 0));
    }

    private static void nonceAndSaltOfZero() {
        Watched w = new Watched(1836781009, 1182268765);
        w.create(1);
        w.begin(2);
        w.seal(0, 0, 1, 3);
        Check.due("the nonce drawn at seal", w.real.nonce(0), 0);
        Check.due("prove with it", w.real.prove(1, 0, 2, 0, 0), true);
        Check.due("unseal with it", w.real.unseal(0, 0), 0);
        Watched v = new Watched(1690056396, 348930279);
        v.create(1);
        v.begin(2);
        v.seal(0, 0, 1, 3);
        Check.due("the salt", v.real.blob(0, 3), 0);
        v.unseal(0, 0, 0);
        Check.due("the data", v.real.output(), 3);
    }

    private static void secretAndCallersNonceOfZero() {
        Watched w = new Watched(0, 0);
        w.create(0);
        w.begin(0);
        w.seal(0, 0, 0, 0);
        w.unseal(0, 0, 0);
        Check.due("prove with secret 0", w.real.prove(0, 0, 3, 0, 0), true);
        Check.due("quote", w.real.quote(0, 0, 0, 0), 0);
        Check.due("destroy", w.real.destroy(0), true);
        Check.due("end", w.real.end(0), true);
    }

    private static void blobWordsOfZero() {
        Watched w = new Watched(4, 4);
        w.create(1);
        w.begin(2);
        long salt = Check.hash(w.due.machineSecret, 4);
        long cover = Check.hash(w.due.machineSecret, salt, w.due.digest(0));
        w.seal(0, 0, 0, cover);
        Check.due("the cipher", w.real.blob(0, 4), 0);
        w.unseal(0, 0, 0);
        Check.due("the data", w.real.output(), cover);
        for (int i = 0; i < 6; i++) {
            w.change(0, i, 0);
        }
        w.same("all words 0");
        Check.due("unseal of words 0", w.real.unseal(0, 0), RegisterSealer.BROKEN);
        Check.due("change of words 0", w.real.change(0, 5, 1), true);
    }

    private static void objectsAreApart() {
        Watched one = new Watched(1, 2);
        Watched other = new Watched(1, 3);
        for (int n = 0; n < 5; n++) {
            one.create(n);
            other.create(-n);
            one.begin(n % 4);
            one.extend(n % 2, n);
            other.locality(n % 4);
            one.seal(0, n, n, n);
            one.fail(0, 0);
            one.same("one of two");
            other.same("the other of two");
        }
        other.begin(8);
        other.seal(0, 4, 255, 9);
        one.endWithProof("one of two");
        other.endWithSecrets("the other of two");
    }
}

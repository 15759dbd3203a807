/** What the tests share: the comparing of answers, and the document's reckoning done a second time. */
final class Check {
    private static int wrong = 0;
    private static int asked = 0;

    private Check() {
    }

    static void due(String call, long got, long want) {
        asked++;
        if (got != want) {
            wrong++;
            System.out.println(call + " answered " + got + ", due is " + want);
        }
    }

    static void due(String call, boolean got, boolean want) {
        due(call, got ? 1L : 0L, want ? 1L : 0L);
    }

    static void differs(String what, long one, long other) {
        asked++;
        if (one == other) {
            wrong++;
            System.out.println(what + ": both are " + one + ", due are two that differ");
        }
    }

    static void finish() {
        System.out.println(asked + " answers looked at, " + wrong + " not as due");
        System.exit(wrong == 0 && asked > 0 ? 0 : 1);
    }

    static long hash(long... words) {
        long h = words.length;
        for (long word : words) {
            h = fold(h, word);
        }
        return h;
    }

    static long fold(long h, long w) {
        long x = (h ^ w) * 3141592653589793239L;
        return x ^ (x >>> 29);
    }

    static long mac(long k, long... words) {
        long[] inner = new long[words.length + 1];
        inner[0] = k ^ 92;
        System.arraycopy(words, 0, inner, 1, words.length);
        return hash(k ^ 54, hash(inner));
    }

    /** The word that an object made with a and b draws as its n-th, counted from 1. */
    static long drawn(int a, int b, int n) {
        return hash(hash(a, b), n);
    }

    /** The secret that has this name when this word is drawn for it: HASH reckoned backward. */
    static long secretForName(long name, long drawn) {
        return 2 ^ unfold(drawn ^ unfold(name));
    }

    /** The caller's nonce with which this proof is right: MAC reckoned backward. */
    static long callerNonceFor(long proof, long secret, long machineNonce, int command, long parameter) {
        long inner = unfold(proof) ^ fold(2, secret ^ 54);
        long beforeParameter = unfold(inner) ^ parameter;
        long beforeCommand = unfold(beforeParameter) ^ command;
        return unfold(beforeCommand) ^ fold(fold(5, secret ^ 92), machineNonce);
    }

    /** The h xor w for which FOLD(h, w) is this word. */
    private static long unfold(long folded) {
        long inverse = 1;
        for (int i = 0; i < 6; i++) {
            inverse *= 2 - 3141592653589793239L * inverse;
        }
        return (folded ^ (folded >>> 29) ^ (folded >>> 58)) * inverse;
    }
}

/** Promises 19 to 21: the words of blobs, seen and changed, and reboot. */
public final class BlobsAndRebootTest {
    private static final int A = 8;
    private static final int B = 8;
    private static final long SECRET = -40;
    private static final int[] NO_BLOBS = {-1, 2, 9, 10, Integer.MIN_VALUE, Integer.MAX_VALUE};
    private static final int[] NO_WORDS = {-1, 6, 7, 12, Integer.MIN_VALUE, Integer.MAX_VALUE};

    public static void main(String[] args) {
        promise19Blob();
        promise20Change();
        promise21Ends();
        promise21Stays();
        Check.finish();
    }

    private static RegisterSealer withTwoBlobs() {
        RegisterSealer x = new RegisterSealer(A, B);
        x.create(SECRET);
        x.begin(3);
        for (int k = 0; k < 2; k++) {
            x.prove(SECRET, 0, 1, 1, k);
            x.seal(0, 0, 1, k);
        }
        return x;
    }

    private static long[] allWords(RegisterSealer x) {
        long[] words = new long[12];
        for (int at = 0; at < 12; at++) {
            words[at] = x.blob(at / 6, at % 6);
        }
        return words;
    }

    private static void same(String when, RegisterSealer x, long[] want) {
        for (int at = 0; at < 12; at++) {
            Check.due("blob(" + at / 6 + ", " + at % 6 + ") " + when, x.blob(at / 6, at % 6), want[at]);
        }
    }

    private static void promise19Blob() {
        RegisterSealer x = withTwoBlobs();
        for (int k = 0; k < 2; k++) {
            Check.due("word 0", x.blob(k, 0), x.name(0));
            Check.due("word 1", x.blob(k, 1), 1);
            Check.due("word 2", x.blob(k, 2), x.digest(1));
            Check.due("word 3", x.blob(k, 3), Check.drawn(A, B, 4 + 2 * k));
        }
        for (int i = 0; i < 6; i++) {
            for (int no : NO_BLOBS) {
                Check.due("blob(" + no + ", " + i + ")", x.blob(no, i), RegisterSealer.NONE);
            }
        }
        for (int k = 0; k < 2; k++) {
            for (int no : NO_WORDS) {
                Check.due("blob(" + k + ", " + no + ")", x.blob(k, no), RegisterSealer.NONE);
            }
        }
    }

    private static void promise20Change() {
        RegisterSealer x = withTwoBlobs();
        long[] want = allWords(x);
        long[] values = {0, 1, -1, Long.MIN_VALUE, Long.MAX_VALUE};
        for (int at = 0; at < 12; at++) {
            want[at] = values[at % 5];
            Check.due("change", x.change(at / 6, at % 6, want[at]), true);
            Check.due("change to what it is", x.change(at / 6, at % 6, want[at]), true);
            same("after change", x, want);
        }
        for (int no : NO_BLOBS) {
            Check.due("change of blob " + no, x.change(no, 0, 5), false);
        }
        for (int no : NO_WORDS) {
            Check.due("change of word " + no, x.change(0, no, 5), false);
            Check.due("change of word " + no, x.change(1, no, 5), false);
        }
        same("after refused changes", x, want);
        x.prove(SECRET, 0, 1, 0, 6);
        Check.due("seal after it", x.seal(0, 0, 0, 6), 2);
        same("after seal", x, want);
    }

    private static void promise21Ends() {
        RegisterSealer x = withTwoBlobs();
        x.locality(3);
        for (int p = 0; p < 8; p++) {
            x.extend(p, p);
        }
        x.begin(1);
        x.begin(2);
        x.begin(3);
        x.prove(SECRET, 0, 3, 0, 0);
        x.quote(0, 0, 0, 0);
        x.quote(1, 0, 0, 0);
        x.prove(SECRET, 0, 3, 0, 0);
        Check.due("quote", x.quote(0, 0, 0, 0), 0);
        Check.differs("output and none", x.output(), 0);
        x.reboot();
        Check.due("output", x.output(), 0);
        for (int p = 0; p < 8; p++) {
            Check.due("register " + p, x.register(p), 0);
            Check.due("extend " + p, x.extend(p, 1), p < 2);
        }
        for (int s = 0; s < 4; s++) {
            Check.due("nonce " + s, x.nonce(s), RegisterSealer.NONE);
            Check.due("end " + s, x.end(s), false);
        }
        for (int s = 0; s < 4; s++) {
            Check.due("begin", x.begin(0), s);
        }
        x.quote(0, 0, 0, 0);
        Check.due("one failure", x.failures(), 1);
        x.reboot();
        Check.due("failures", x.failures(), 0);
    }

    private static void promise21Stays() {
        RegisterSealer x = withTwoBlobs();
        x.create(9);
        long name0 = x.name(0);
        long name1 = x.name(1);
        long[] words = allWords(x);
        x.present(Check.mac(SECRET, Check.drawn(A, B, 8), 3, 2, words[5]));
        x.reboot();
        Check.due("name 0", x.name(0), name0);
        Check.due("name 1", x.name(1), name1);
        same("after reboot", x, words);
        x.begin(3);
        Check.due("what is drawn next", x.nonce(0), Check.drawn(A, B, 8));
        Check.due("unseal with the proof from before", x.unseal(0, 0), 0);
        Check.due("output", x.output(), 0);
        x.prove(SECRET, 0, 2, 1, 0);
        Check.due("unseal of blob 1", x.unseal(0, 1), 0);
        Check.due("output", x.output(), 1);
        x.prove(9, 0, 1, 0, 0);
        Check.due("the next blob", x.seal(0, 1, 0, 0), 2);
    }
}

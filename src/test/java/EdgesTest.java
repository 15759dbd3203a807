/** The first and the last place, full and one less than full, and the two sides of each range. */
public final class EdgesTest {
    private static final int BAD = RegisterSealer.BAD;
    private static final int FULL = RegisterSealer.FULL;
    private static final int DENIED = RegisterSealer.DENIED;
    private static final int LOCKED = RegisterSealer.LOCKED;

    public static void main(String[] args) {
        promise3And4OpenAndNot();
        promise4FirstResettable();
        promise7OneLessThanFull();
        promise8EachPlaceFreed();
        promise9LastKey();
        promise10OneLessThanFull();
        promise11EachPlaceFreed();
        promise12LastSession();
        promise13BlobsThatAre();
        promise13Commands();
        promise15OneLessThanFull();
        promise15Masks();
        promise16Blobs();
        promise16Masks();
        promise16LastKey();
        promise17Masks();
        promise19And20LastBlob();
        promise20BlobToCome();
        promise21AtOnce();
        promise21RegistersThatWereNotOpen();
        promise22ThreeInARow();
        promise22FailuresOfAllCommands();
        promise22OtherAnswersDoNotCount();
        promise22LockedUntilReboot();
        all512Calls();
        Check.finish();
    }

    private static Watched filled(int keys, int sessions, int blobs) {
        Watched w = new Watched(61, 62);
        for (int key = 0; key < keys; key++) {
            w.create(2000 + key);
        }
        for (int session = 0; session < sessions; session++) {
            w.begin(3000 + session);
        }
        for (int k = 0; k < blobs; k++) {
            w.seal(sessions - 1, keys - 1, k, 4000 + k);
        }
        return w;
    }

    private static int sealProven(Watched w, int session, int key, int mask, long data) {
        w.real.prove(2000 + key, session, 1, mask, data);
        return w.real.seal(session, key, mask, data);
    }

    private static int unsealProven(Watched w, int session, int key, int blob) {
        w.real.prove(2000 + key, session, 2, blob, 0);
        return w.real.unseal(session, blob);
    }

    private static int quoteProven(Watched w, int session, int key, int mask, long challenge) {
        w.real.prove(2000 + key, session, 3, mask, challenge);
        return w.real.quote(session, key, mask, challenge);
    }

    // For each register: the last locality at which it is not open, and the first at which it is.
    private static void promise3And4OpenAndNot() {
        int[] first = {0, 0, 1, 1, 2, 2, 3, 3};
        for (int p = 0; p < 8; p++) {
            RegisterSealer x = new RegisterSealer(0, 1);
            if (first[p] > 0) {
                x.locality(first[p] - 1);
                Check.due("extend " + p + " one below", x.extend(p, 9), false);
                Check.due("reset " + p + " one below", x.reset(p), false);
                Check.due("register " + p + " one below", x.register(p), 0);
            }
            x.locality(first[p]);
            Check.due("extend " + p + " just there", x.extend(p, 9), true);
            Check.due("register " + p + " just there", x.register(p), Check.hash(0, 9));
            Check.due("reset " + p + " just there", x.reset(p), p >= 4);
            Check.due("register " + p + " then", x.register(p), p >= 4 ? 0 : Check.hash(0, 9));
        }
    }

    private static void promise4FirstResettable() {
        RegisterSealer x = new RegisterSealer(0, 1);
        x.locality(3);
        x.extend(3, 1);
        x.extend(4, 1);
        x.extend(7, 1);
        Check.due("reset 3, open", x.reset(3), false);
        Check.due("register 3", x.register(3), Check.hash(0, 1));
        Check.due("reset 4", x.reset(4), true);
        Check.due("register 4", x.register(4), 0);
        Check.due("reset 7", x.reset(7), true);
        Check.due("register 7", x.register(7), 0);
        Check.due("reset 8", x.reset(8), false);
        Check.due("reset of what is 0", x.reset(4), true);
    }

    private static void promise7OneLessThanFull() {
        Watched w = filled(5, 1, 0);
        Check.due("create at five", w.real.create(2005), 5);
        Check.due("create at six", w.real.create(2006), FULL);
        Check.due("create at six again", w.real.create(2006), FULL);
        Check.due("quote with the last key", quoteProven(w, 0, 5, 0, 0), 0);
        Check.due("quote with the first key", quoteProven(w, 0, 0, 0, 0), 0);
        Check.due("quote with none behind the last", quoteProven(w, 0, 6, 0, 0), BAD);
    }

    private static void promise8EachPlaceFreed() {
        for (int key = 0; key < 6; key++) {
            Watched w = filled(6, 1, 0);
            w.destroy(key);
            Check.due("destroy " + key + " again", w.real.destroy(key), false);
            w.same("after destroy " + key);
            w.create(99);
            Check.due("create again", w.real.create(98), FULL);
            w.same("after create in place " + key);
            w.endWithSecrets("after create in place " + key);
        }
        Watched w = filled(6, 1, 0);
        for (int key = 5; key >= 0; key--) {
            w.destroy(key);
        }
        for (int key = 0; key < 6; key++) {
            w.create(70 + key);
        }
        w.same("all keys new");
        w.endWithSecrets("all keys new");
    }

    private static void promise9LastKey() {
        Watched w = filled(6, 0, 0);
        Check.due("name 0", w.real.name(0), Check.hash(2000, Check.drawn(61, 62, 1)));
        Check.due("name 5", w.real.name(5), Check.hash(2005, Check.drawn(61, 62, 6)));
        Check.due("name 6", w.real.name(6), RegisterSealer.NONE);
        Check.due("name -1", w.real.name(-1), RegisterSealer.NONE);
        w.destroy(5);
        Check.due("name 5, destroyed", w.real.name(5), RegisterSealer.NONE);
    }

    private static void promise10OneLessThanFull() {
        Watched w = filled(1, 3, 0);
        Check.due("begin at three", w.real.begin(3003), 3);
        Check.due("begin at four", w.real.begin(3004), FULL);
        Check.due("begin at four again", w.real.begin(3004), FULL);
        Check.due("quote in the last session", quoteProven(w, 3, 0, 0, 0), 0);
        Check.due("quote in the first session", quoteProven(w, 0, 0, 0, 0), 0);
        Check.due("quote in none behind the last", quoteProven(w, 4, 0, 0, 0), BAD);
    }

    private static void promise11EachPlaceFreed() {
        for (int session = 0; session < 4; session++) {
            Watched w = filled(1, 4, 0);
            w.end(session);
            Check.due("end " + session + " again", w.real.end(session), false);
            w.same("after end " + session);
            w.begin(99);
            Check.due("begin again", w.real.begin(98), FULL);
            w.same("after begin in place " + session);
            w.endWithSecrets("after begin in place " + session);
        }
        Watched w = filled(1, 4, 0);
        for (int session = 3; session >= 0; session--) {
            w.end(session);
        }
        for (int session = 0; session < 4; session++) {
            w.begin(70 + session);
        }
        w.same("all sessions new");
        w.endWithSecrets("all sessions new");
    }

    private static void promise12LastSession() {
        Watched w = filled(0, 4, 0);
        Check.due("nonce 0", w.real.nonce(0), Check.drawn(61, 62, 1));
        Check.due("nonce 3", w.real.nonce(3), Check.drawn(61, 62, 4));
        Check.due("nonce 4", w.real.nonce(4), RegisterSealer.NONE);
        Check.due("nonce -1", w.real.nonce(-1), RegisterSealer.NONE);
        w.end(3);
        Check.due("nonce 3, ended", w.real.nonce(3), RegisterSealer.NONE);
    }

    private static void promise13BlobsThatAre() {
        for (int blobs = 0; blobs <= 10; blobs++) {
            Watched w = filled(1, 1, blobs);
            Check.due("prove, blob -1 of " + blobs, w.real.prove(2000, 0, 2, -1, 0), false);
            Check.due("prove, first blob of " + blobs, w.real.prove(2000, 0, 2, 0, 0), blobs > 0);
            Check.due("prove, last blob of " + blobs, w.real.prove(2000, 0, 2, blobs - 1, 0), blobs > 0);
            if (blobs > 0) {
                Check.due("unseal of it", w.real.unseal(0, blobs - 1), 0);
            }
            Check.due("prove, behind the last of " + blobs, w.real.prove(2000, 0, 2, blobs, 0), false);
        }
    }

    private static void promise13Commands() {
        Watched w = filled(1, 1, 1);
        for (int command = -1; command <= 5; command++) {
            boolean is = command >= 1 && command <= 3;
            Check.due("prove, command " + command, w.real.prove(2000, 0, command, 0, 0), is);
            Check.due("prove, command " + command + ", no session", w.real.prove(2000, 1, command, 0, 0), false);
        }
        Check.due("prove, command 1, a number that is no blob", w.real.prove(2000, 0, 1, 10, 0), true);
        Check.due("prove, command 3, a number that is no blob", w.real.prove(2000, 0, 3, -1, 0), true);
    }

    private static void promise15OneLessThanFull() {
        Watched w = filled(6, 4, 9);
        Check.due("no blob 9 yet", w.real.change(9, 0, 0), false);
        Check.due("seal at nine, not proven", w.real.seal(0, 0, 0, 0), DENIED);
        Check.due("no blob 9 after DENIED", w.real.change(9, 0, 0), false);
        Check.due("seal at nine", sealProven(w, 3, 5, 255, -1), 9);
        Check.due("seal at ten", sealProven(w, 3, 5, 255, -1), FULL);
        w.real.reboot();
        w.real.destroy(5);
        w.real.begin(1);
        Check.due("seal at ten, after reboot", sealProven(w, 0, 0, 255, -1), FULL);
        Check.due("FULL has failed nothing", w.real.failures(), 0);
    }

    private static void promise15Masks() {
        int[] masks = {Integer.MIN_VALUE, -256, -1, 0, 1, 254, 255, 256, 511, Integer.MAX_VALUE};
        for (int mask : masks) {
            Watched w = filled(1, 1, 0);
            boolean is = mask >= 0 && mask <= 255;
            Check.due("seal with mask " + mask, sealProven(w, 0, 0, mask, 5), is ? 0 : BAD);
            Check.due("blob sealed with mask " + mask, w.real.blob(0, 1), is ? mask : 0);
        }
    }

    private static void promise16Blobs() {
        Watched w = filled(6, 4, 10);
        Check.due("unseal of the first", unsealProven(w, 0, 5, 0), 0);
        Check.due("its data", w.real.output(), 4000);
        Check.due("unseal of the last", unsealProven(w, 3, 5, 9), 0);
        Check.due("its data", w.real.output(), 4009);
        Check.due("unseal behind the last", w.real.unseal(0, 10), BAD);
        Check.due("unseal before the first", w.real.unseal(0, -1), BAD);
        w = filled(6, 4, 9);
        Check.due("unseal of one to come", w.real.unseal(0, 9), BAD);
    }

    // The digest in the blob is what the mask has now or, where there is none, what digest() answers.
    private static void promise16Masks() {
        long[] masks = {Long.MIN_VALUE, -256, -1, 0, 1, 254, 255, 256, 257, 1L << 32, (1L << 32) + 255, Long.MAX_VALUE};
        for (long mask : masks) {
            Watched w = filled(1, 1, 1);
            boolean is = mask >= 0 && mask <= 255;
            w.change(0, 1, mask);
            w.change(0, 2, w.due.digest(is ? (int) mask : -1));
            w.makeSealRight(0);
            Check.due("unseal with mask " + mask, unsealProven(w, 0, 0, 0), is ? 0 : RegisterSealer.POLICY);
            w.change(0, 2, w.due.digest((int) mask) + 1);
            w.makeSealRight(0);
            Check.due("unseal with another digest", unsealProven(w, 0, 0, 0), RegisterSealer.POLICY);
        }
    }

    private static void promise16LastKey() {
        for (int key = 0; key < 6; key++) {
            Watched w = filled(6, 1, 1);
            w.change(0, 0, w.due.name(key));
            w.makeSealRight(0);
            Check.due("unseal with key " + key, unsealProven(w, 0, key, 0), 0);
            w.destroy(key);
            Check.due("unseal with key " + key + " gone", unsealProven(w, 0, key, 0), RegisterSealer.GONE);
        }
        Watched w = filled(4, 1, 1);
        w.create(Check.secretForName(w.due.name(3), Check.hash(w.due.machineSecret, w.due.drawn + 1)));
        w.create(Check.secretForName(w.due.name(3), Check.hash(w.due.machineSecret, w.due.drawn + 1)));
        Check.due("three keys have one name", w.real.name(5), w.real.name(3));
        for (int key = 3; key < 6; key++) {
            for (int greater = key + 1; greater < 6; greater++) {
                w.unseal(0, greater, 0);
                Check.due("unseal with a greater one's secret: failures", w.real.failures(), greater - key);
            }
            w.unseal(0, key, 0);
            Check.due("unseal with the least one's secret: failures", w.real.failures(), 0);
            Check.due("its data", w.real.output(), 4000);
            w.destroy(key);
        }
        Check.due("unseal with none of the name", w.real.unseal(0, 0), RegisterSealer.GONE);
    }

    private static void promise17Masks() {
        int[] masks = {Integer.MIN_VALUE, -256, -1, 0, 1, 254, 255, 256, 511, Integer.MAX_VALUE};
        for (int mask : masks) {
            Watched w = filled(1, 1, 0);
            boolean is = mask >= 0 && mask <= 255;
            Check.due("quote with mask " + mask, quoteProven(w, 0, 0, mask, 5), is ? 0 : BAD);
            long signed = Check.mac(2000, mask, w.due.digest(mask), 5);
            Check.due("output of mask " + mask, w.real.output(), is ? signed : 0);
        }
    }

    private static void promise19And20LastBlob() {
        for (int blobs = 0; blobs <= 10; blobs++) {
            Watched w = filled(1, 1, blobs);
            for (int k = -1; k <= 11; k++) {
                for (int i = -1; i <= 6; i++) {
                    boolean is = k >= 0 && k < blobs && i >= 0 && i <= 5;
                    String word = "(" + k + ", " + i + ") of " + blobs + " blobs";
                    Check.due("blob" + word, w.real.blob(k, i), is ? w.due.blobs.get(k)[i] : RegisterSealer.NONE);
                    Check.due("change" + word, w.real.change(k, i, 7), is);
                    Check.due("blob" + word + " then", w.real.blob(k, i), is ? 7 : RegisterSealer.NONE);
                    w.due.change(k, i, 7);
                }
            }
            w.same("all words of " + blobs + " blobs changed");
        }
    }

    private static void promise20BlobToCome() {
        Watched w = filled(1, 1, 4);
        for (int i = 0; i < 6; i++) {
            Check.due("change of the blob to come", w.real.change(4, i, 7), false);
        }
        w.seal(0, 0, 6, 8);
        w.same("the blob that has come");
        w.unseal(0, 0, 4);
        Check.due("its data", w.real.output(), 8);
    }

    private static void promise21AtOnce() {
        Watched w = new Watched(8, 9);
        w.reboot();
        w.same("reboot of a new object");
        w.create(1);
        w.begin(2);
        w.reboot();
        w.reboot();
        w.same("reboot twice");
        w.begin(3);
        w.seal(0, 0, 0, 1);
        w.same("after it");
        w.endWithProof("after it");
    }

    private static void promise21RegistersThatWereNotOpen() {
        Watched w = filled(1, 1, 0);
        w.locality(3);
        for (int p = 0; p < 8; p++) {
            w.extend(p, p);
        }
        w.locality(0);
        w.reboot();
        w.same("reboot at locality 0");
        Check.due("locality(3) after it", w.real.locality(3), true);
        w.real.reboot();
        Check.due("extend 2 after reboot", w.real.extend(2, 1), false);
        Check.due("extend 1 after reboot", w.real.extend(1, 1), true);
    }

    private static void promise22ThreeInARow() {
        for (int wrong = 0; wrong <= 3; wrong++) {
            Watched w = filled(1, 1, 0);
            for (int n = 0; n < wrong; n++) {
                w.fail(0, 0);
            }
            Check.due("failures", w.real.failures(), wrong);
            Check.due("quote after " + wrong, quoteProven(w, 0, 0, 1, 1), wrong < 3 ? 0 : LOCKED);
            Check.due("failures then", w.real.failures(), wrong < 3 ? 0 : 3);
            Check.due("not proven after " + wrong, w.real.quote(0, 0, 1, 1), wrong < 3 ? DENIED : LOCKED);
            Check.due("failures in the end", w.real.failures(), wrong < 3 ? 1 : 3);
        }
    }

    // The failures are the machine's, whatever the command, the session and the key.
    private static void promise22FailuresOfAllCommands() {
        int[][] orders = {{1, 2, 3}, {2, 3, 1}, {3, 1, 2}};
        for (int[] order : orders) {
            Watched w = filled(3, 3, 2);
            w.present(1);
            for (int n = 0; n < 3; n++) {
                Check.due("command " + order[n] + ", not proven", ask(w, order[n], n), DENIED);
                Check.due("failures", w.real.failures(), n + 1);
            }
            for (int command = 1; command <= 3; command++) {
                Check.due("command " + command + " then", ask(w, command, command - 1), LOCKED);
            }
        }
    }

    private static int ask(Watched w, int command, int place) {
        switch (command) {
            case 1: return w.real.seal(place, place, 0, 0);
            case 2: return w.real.unseal(place, 0);
            default: return w.real.quote(place, place, 0, 0);
        }
    }

    private static void promise22OtherAnswersDoNotCount() {
        Watched w = filled(2, 1, 10);
        w.fail(0, 0);
        w.fail(0, 0);
        w.change(1, 0, 0);
        w.destroy(1);
        for (int n = 0; n < 3; n++) {
            Check.due("BAD", w.real.quote(0, 1, 0, 0), BAD);
            Check.due("FULL", w.real.seal(0, 0, 0, 0), FULL);
            Check.due("BROKEN", w.real.unseal(0, 1), RegisterSealer.BROKEN);
            Check.due("GONE", w.real.unseal(0, 0), RegisterSealer.GONE);
            Check.due("failures are two", w.real.failures(), 2);
        }
        Check.due("not proven", w.real.quote(0, 0, 0, 0), DENIED);
        Check.due("failures are three", w.real.failures(), 3);
        w = filled(1, 1, 1);
        w.fail(0, 0);
        w.fail(0, 0);
        w.extend(0, 1);
        w.change(0, 1, 1);
        w.makeSealRight(0);
        Check.due("POLICY", unsealProven(w, 0, 0, 0), RegisterSealer.POLICY);
        Check.due("failures after POLICY, which was proven", w.real.failures(), 0);
    }

    private static void promise22LockedUntilReboot() {
        Watched w = filled(1, 1, 1);
        for (int n = 0; n < 3; n++) {
            w.fail(0, 0);
        }
        w.create(2001);
        w.destroy(0);
        w.create(2000);
        w.end(0);
        w.begin(1);
        w.begin(2);
        w.locality(3);
        w.extend(7, 1);
        Check.due("quote, locked for all keys and sessions", quoteProven(w, 1, 1, 0, 0), LOCKED);
        w.same("locked");
        w.reboot();
        w.begin(1);
        Check.due("quote after reboot", quoteProven(w, 0, 1, 0, 0), 0);
        for (int n = 1; n <= 3; n++) {
            Check.due("not proven", w.real.quote(0, 1, 0, 0), DENIED);
            Check.due("failures count from 0", w.real.failures(), n);
        }
    }

    private static void all512Calls() {
        Watched w = filled(1, 1, 0);
        for (int call = 3; call + 2 < 512; call += 3) {
            w.real.prove(2000, 0, 3, 255, call);
            Check.due("quote as call " + (call + 1), w.real.quote(0, 0, 255, call), 0);
            Check.due("its output", w.real.output(), Check.mac(2000, 255, w.due.digest(255), call));
        }
    }
}

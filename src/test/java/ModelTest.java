import java.util.ArrayDeque;
import java.util.Random;

/** All promises: runs of drawn calls, each answer compared with the Model's. */
public final class ModelTest {
    private static final int RUNS = 3000;
    private static final int CALLS = 512;
    private static final int[] FAR_INTS = {-1, 6, 8, 10, 255, 256, 259, Integer.MIN_VALUE, Integer.MAX_VALUE};
    private static final long[] WORDS = {0, 1, 2, 3, -1, 1L << 32, Long.MIN_VALUE, Long.MAX_VALUE};

    private record Call(String name, int p, int q, int r, long v, long w) {
    }

    public static void main(String[] args) {
        int[] answers = new int[8];
        for (int run = 0; run < RUNS; run++) {
            new ModelTest(run).play(answers);
        }
        for (int answer = 0; answer < answers.length; answer++) {
            Check.differs("how often a command answered -" + answer + ", and never", answers[answer], 0);
        }
        Check.finish();
    }

    private final int run;
    private final Random random;
    private final RegisterSealer real;
    private final Model model;
    private final ArrayDeque<Call> coming = new ArrayDeque<>();

    private ModelTest(int run) {
        this.run = run;
        random = new Random(run);
        int a = anyInt(3);
        int b = run % 2 == 0 ? random.nextInt() : anyInt(3);
        real = new RegisterSealer(a, b);
        model = new Model(a, b);
    }

    private void play(int[] answers) {
        for (int n = 1; n <= CALLS; n++) {
            if (coming.isEmpty()) {
                plan();
            }
            Call call = coming.remove();
            long want = onModel(call);
            Check.due("run " + run + ", call " + n + ", " + call, onReal(call), want);
            if (call.name.equals("seal") || call.name.equals("unseal") || call.name.equals("quote")) {
                answers[want < 0 ? (int) -want : 0]++;
            }
        }
    }

    private boolean chance(int in) {
        return random.nextInt(in) == 0;
    }

    private int anyInt(int below) {
        return chance(20) ? FAR_INTS[random.nextInt(FAR_INTS.length)] : random.nextInt(below);
    }

    private int anyMask() {
        return chance(2) ? anyInt(4) : anyInt(256);
    }

    private long anyWord() {
        return chance(4) ? random.nextLong() : WORDS[random.nextInt(WORDS.length)];
    }

    private void add(String name, int p, int q, int r, long v, long w) {
        coming.add(new Call(name, p, q, r, v, w));
    }

    private void plan() {
        switch (random.nextInt(18)) {
            case 0, 1: planSeal(); break;
            case 2, 3, 4: planUnseal(); break;
            case 5, 6: planQuote(); break;
            case 7: planForgery(); break;
            case 8: add("create", 0, 0, 0, nextSecret(), 0); break;
            case 9: add("begin", 0, 0, 0, anyWord(), 0); break;
            case 10: add(chance(3) ? "destroy" : "name", anyInt(6), 0, 0, 0, 0); break;
            case 11: add(chance(3) ? "end" : "nonce", anyInt(4), 0, 0, 0, 0); break;
            case 12: add("locality", anyInt(4), 0, 0, 0, 0); break;
            case 13: add(chance(3) ? "extend" : "reset", anyInt(8), 0, 0, anyWord(), 0); break;
            case 14: add(chance(2) ? "register" : "digest", anyInt(9), 0, 0, 0, 0); break;
            case 15: add(chance(2) ? "output" : "failures", 0, 0, 0, 0, 0); break;
            case 16: add(chance(9) ? "change" : "blob", anyInt(10), anyInt(6), 0, anyWord(), 0); break;
            default: add(chance(8) || model.failures == 3 ? "reboot" : "digest", anyMask(), 0, 0, 0, 0); break;
        }
    }

    // Now and then a secret that gives the next key the name of another one, or the name 0.
    private long nextSecret() {
        if (chance(3)) {
            long name = chance(4) ? 0 : model.name(random.nextInt(6));
            return Check.secretForName(name, Check.hash(model.machineSecret, model.drawn + 1));
        }
        return anyWord();
    }

    private long secretOf(int key) {
        return model.keys.containsKey(key) && !chance(10) ? model.keys.get(key).secret : anyWord();
    }

    private void between() {
        if (chance(5)) {
            add(chance(2) ? "extend" : "nonce", random.nextInt(4), 0, 0, anyWord(), 0);
        } else if (chance(15)) {
            add("present", 0, 0, 0, anyWord(), 0);
        }
    }

    private void planSeal() {
        int session = anyInt(4);
        int key = anyInt(6);
        int mask = anyMask();
        long data = anyWord();
        add("prove", session, 1, mask, secretOf(key), data);
        between();
        add("seal", session, key, mask, data, 0);
    }

    private void planUnseal() {
        int session = anyInt(4);
        int blob = anyInt(Math.max(1, model.blobs.size()));
        Integer key = blob >= 0 && blob < model.blobs.size() ? model.leastNamed(model.blobs.get(blob)[0]) : null;
        add("prove", session, 2, blob, secretOf(key == null ? 0 : key), anyWord());
        between();
        add("unseal", session, blob, 0, 0, 0);
        add("output", 0, 0, 0, 0, 0);
    }

    private void planQuote() {
        int session = anyInt(4);
        int key = anyInt(6);
        int mask = anyMask();
        long challenge = anyWord();
        add("prove", session, 3, mask, secretOf(key), challenge);
        between();
        add("quote", session, key, mask, challenge, 0);
        add("output", 0, 0, 0, 0, 0);
    }

    // Changes a word of a blob, mostly with the seal that makes the blob whole again.
    private void planForgery() {
        if (model.blobs.isEmpty()) {
            planSeal();
            return;
        }
        int k = random.nextInt(model.blobs.size());
        int i = random.nextInt(5);
        long[] words = model.blobs.get(k).clone();
        words[i] = i == 0 && chance(2) ? model.name(random.nextInt(6)) : i == 1 && chance(2) ? anyMask() : anyWord();
        add("change", k, i, 0, words[i], 0);
        if (i == 1 && chance(2)) {
            words[2] = model.digest((int) words[1]);
            add("change", k, 2, 0, words[2], 0);
        }
        if (!chance(4)) {
            add("change", k, 5, 0, model.sealOf(words), 0);
        }
    }

    private static long number(boolean answer) {
        return answer ? 1 : 0;
    }

    private long onReal(Call c) {
        switch (c.name) {
            case "locality": return number(real.locality(c.p));
            case "extend": return number(real.extend(c.p, c.v));
            case "reset": return number(real.reset(c.p));
            case "register": return real.register(c.p);
            case "digest": return real.digest(c.p);
            case "create": return real.create(c.v);
            case "destroy": return number(real.destroy(c.p));
            case "name": return real.name(c.p);
            case "begin": return real.begin(c.v);
            case "end": return number(real.end(c.p));
            case "nonce": return real.nonce(c.p);
            case "prove": return number(real.prove(c.v, c.p, c.q, c.r, c.w));
            case "present": real.present(c.v); return 0;
            case "seal": return real.seal(c.p, c.q, c.r, c.v);
            case "unseal": return real.unseal(c.p, c.q);
            case "quote": return real.quote(c.p, c.q, c.r, c.v);
            case "output": return real.output();
            case "blob": return real.blob(c.p, c.q);
            case "change": return number(real.change(c.p, c.q, c.v));
            case "reboot": real.reboot(); return 0;
            case "failures": return real.failures();
            default: throw new IllegalStateException(c.name);
        }
    }

    private long onModel(Call c) {
        switch (c.name) {
            case "locality": return number(model.locality(c.p));
            case "extend": return number(model.extend(c.p, c.v));
            case "reset": return number(model.reset(c.p));
            case "register": return c.p < 0 || c.p > 7 ? 0 : model.registers[c.p];
            case "digest": return model.digest(c.p);
            case "create": return model.create(c.v);
            case "destroy": return number(model.keys.remove(c.p) != null);
            case "name": return model.name(c.p);
            case "begin": return model.begin(c.v);
            case "end": return number(model.sessions.remove(c.p) != null);
            case "nonce": return model.sessions.containsKey(c.p) ? model.sessions.get(c.p).machine : 0;
            case "prove": return number(model.prove(c.v, c.p, c.q, c.r, c.w));
            case "present": model.proof = c.v; return 0;
            case "seal": return model.seal(c.p, c.q, c.r, c.v);
            case "unseal": return model.unseal(c.p, c.q);
            case "quote": return model.quote(c.p, c.q, c.r, c.v);
            case "output": return model.output;
            case "blob": return model.hasWord(c.p, c.q) ? model.blobs.get(c.p)[c.q] : 0;
            case "change": return number(model.change(c.p, c.q, c.v));
            case "reboot": model.reboot(); return 0;
            case "failures": return model.failures;
            default: throw new IllegalStateException(c.name);
        }
    }
}

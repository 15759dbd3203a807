/**
 * A machine that measures values into registers, seals data to what the registers are,
 * and signs what they are. ../shared/DOC.md says in numbered promises what it must do.
 */
public final class RegisterSealer {
    public static final int BAD = -1;
    public static final int LOCKED = -2;
    public static final int BROKEN = -3;
    public static final int GONE = -4;
    public static final int FULL = -5;
    public static final int DENIED = -6;
    public static final int POLICY = -7;
    public static final long NONE = 0L;

    private static final int REGISTERS = 8;
    private static final int FIRST_RESETTABLE = 4;
    private static final int LAST_LOCALITY = 3;
    private static final int LAST_MASK = 255;
    private static final int KEYS = 6;
    private static final int SESSIONS = 4;
    private static final int BLOBS = 10;
    private static final int MOST_FAILURES = 3;

    private static final int COMMAND_SEAL = 1;
    private static final int COMMAND_UNSEAL = 2;
    private static final int COMMAND_QUOTE = 3;

    private static final int BLOB_WORDS = 6;
    private static final int WORD_NAME = 0;
    private static final int WORD_MASK = 1;
    private static final int WORD_DIGEST = 2;
    private static final int WORD_SALT = 3;
    private static final int WORD_CIPHER = 4;
    private static final int WORD_SEAL = 5;

    private static final long FOLD_FACTOR = 3141592653589793239L;
    private static final int FOLD_SHIFT = 29;
    private static final long MAC_INNER = 92L;
    private static final long MAC_OUTER = 54L;

    private final long machineSecret;
    private long drawn;
    private int locality;
    private int failures;
    private long proof;
    private long output;
    private final long[] registers;
    // Flags of their own tell which keys and sessions are there, as any of their words may be 0.
    private final boolean[] keyThere;
    private final long[] keySecrets;
    private final long[] keyNames;
    private final boolean[] sessionThere;
    private final long[] callerNonces;
    private final long[] machineNonces;
    private int blobCount;
    private final long[][] blobs;

    public RegisterSealer(int a, int b) {
        machineSecret = hash2(a, b);
        registers = new long[REGISTERS];
        keyThere = new boolean[KEYS];
        keySecrets = new long[KEYS];
        keyNames = new long[KEYS];
        sessionThere = new boolean[SESSIONS];
        callerNonces = new long[SESSIONS];
        machineNonces = new long[SESSIONS];
        blobs = new long[BLOBS][BLOB_WORDS];
    }

    public boolean locality(int l) {
        if (l < 0 || l > LAST_LOCALITY) {
            return false;
        }
        locality = l;
        return true;
    }

    public boolean extend(int p, long v) {
        if (!isRegister(p) || !isOpen(p)) {
            return false;
        }
        registers[p] = hash2(registers[p], v);
        return true;
    }

    public boolean reset(int p) {
        if (!isRegister(p) || p < FIRST_RESETTABLE || !isOpen(p)) {
            return false;
        }
        registers[p] = 0L;
        return true;
    }

    public long register(int p) {
        return isRegister(p) ? registers[p] : NONE;
    }

    public long digest(int mask) {
        return isMask(mask) ? digestNow(mask) : NONE;
    }

    public int create(long secret) {
        int key = leastFree(keyThere);
        if (key < 0) {
            return FULL;
        }
        keyThere[key] = true;
        keySecrets[key] = secret;
        keyNames[key] = hash2(secret, draw());
        return key;
    }

    public boolean destroy(int key) {
        if (!isKey(key)) {
            return false;
        }
        keyThere[key] = false;
        return true;
    }

    public long name(int key) {
        return isKey(key) ? keyNames[key] : NONE;
    }

    public int begin(long nonce) {
        int session = leastFree(sessionThere);
        if (session < 0) {
            return FULL;
        }
        sessionThere[session] = true;
        callerNonces[session] = nonce;
        machineNonces[session] = draw();
        return session;
    }

    public boolean end(int session) {
        if (!isSession(session)) {
            return false;
        }
        sessionThere[session] = false;
        return true;
    }

    public long nonce(int session) {
        return isSession(session) ? machineNonces[session] : NONE;
    }

    public boolean prove(long secret, int session, int command, int a, long b) {
        if (!isSession(session) || command < COMMAND_SEAL || command > COMMAND_QUOTE) {
            return false;
        }
        if (command == COMMAND_UNSEAL && !isBlob(a)) {
            return false;
        }
        long parameter = command == COMMAND_UNSEAL ? blobs[a][WORD_SEAL] : hash2(a, b);
        proof = rightProof(secret, session, command, parameter);
        return true;
    }

    public void present(long proof) {
        this.proof = proof;
    }

    public int seal(int session, int key, int mask, long data) {
        if (!isSession(session) || !isKey(key) || !isMask(mask)) {
            return BAD;
        }
        if (isLocked()) {
            return LOCKED;
        }
        if (blobCount >= BLOBS) {
            return FULL;
        }
        if (!passesProving(keySecrets[key], session, COMMAND_SEAL, hash2(mask, data))) {
            return DENIED;
        }
        return addBlob(keyNames[key], mask, data);
    }

    public int unseal(int session, int blob) {
        if (!isSession(session) || !isBlob(blob)) {
            return BAD;
        }
        if (isLocked()) {
            return LOCKED;
        }
        long[] words = blobs[blob];
        if (words[WORD_SEAL] != sealOf(words)) {
            return BROKEN;
        }
        int key = leastKeyNamed(words[WORD_NAME]);
        if (key < 0) {
            return GONE;
        }
        if (!passesProving(keySecrets[key], session, COMMAND_UNSEAL, words[WORD_SEAL])) {
            return DENIED;
        }
        if (!isPolicyMet(words)) {
            output = 0L;
            return POLICY;
        }
        output = words[WORD_CIPHER] ^ cover(words[WORD_SALT], words[WORD_DIGEST]);
        return 0;
    }

    public int quote(int session, int key, int mask, long challenge) {
        if (!isSession(session) || !isKey(key) || !isMask(mask)) {
            return BAD;
        }
        if (isLocked()) {
            return LOCKED;
        }
        long secret = keySecrets[key];
        if (!passesProving(secret, session, COMMAND_QUOTE, hash2(mask, challenge))) {
            return DENIED;
        }
        output = signature(secret, mask, challenge);
        return 0;
    }

    public long output() {
        return output;
    }

    public long blob(int k, int i) {
        return isBlobWord(k, i) ? blobs[k][i] : NONE;
    }

    public boolean change(int k, int i, long v) {
        if (!isBlobWord(k, i)) {
            return false;
        }
        blobs[k][i] = v;
        return true;
    }

    public void reboot() {
        for (int p = 0; p < REGISTERS; p++) {
            registers[p] = 0L;
        }
        for (int session = 0; session < SESSIONS; session++) {
            sessionThere[session] = false;
        }
        locality = 0;
        failures = 0;
        output = 0L;
    }

    public int failures() {
        return failures;
    }

    private static boolean isRegister(int p) {
        return p >= 0 && p < REGISTERS;
    }

    private boolean isOpen(int p) {
        return locality >= p / 2;
    }

    // Takes a long, as a blob's mask may be any word and must not be cut to an int first.
    private static boolean isMask(long mask) {
        return mask >= 0L && mask <= LAST_MASK;
    }

    private boolean isKey(int key) {
        return key >= 0 && key < KEYS && keyThere[key];
    }

    private boolean isSession(int session) {
        return session >= 0 && session < SESSIONS && sessionThere[session];
    }

    private boolean isBlob(int k) {
        return k >= 0 && k < blobCount;
    }

    private boolean isBlobWord(int k, int i) {
        return isBlob(k) && i >= 0 && i < BLOB_WORDS;
    }

    private boolean isLocked() {
        return failures >= MOST_FAILURES;
    }

    private boolean isPolicyMet(long[] words) {
        long mask = words[WORD_MASK];
        return isMask(mask) && digestNow((int) mask) == words[WORD_DIGEST];
    }

    private static int leastFree(boolean[] there) {
        for (int i = 0; i < there.length; i++) {
            if (!there[i]) {
                return i;
            }
        }
        return -1;
    }

    private int leastKeyNamed(long name) {
        for (int key = 0; key < KEYS; key++) {
            if (keyThere[key] && keyNames[key] == name) {
                return key;
            }
        }
        return -1;
    }

    private long draw() {
        drawn++;
        return hash2(machineSecret, drawn);
    }

    private boolean passesProving(long secret, int session, int command, long parameter) {
        boolean right = proof == rightProof(secret, session, command, parameter);
        // Drawn whether right or wrong, so that no proof serves twice.
        machineNonces[session] = draw();
        if (right) {
            failures = 0;
        } else {
            failures++;
            output = 0L;
        }
        return right;
    }

    private int addBlob(long name, int mask, long data) {
        int k = blobCount;
        long[] words = blobs[k];
        long digest = digestNow(mask);
        long salt = draw();
        words[WORD_NAME] = name;
        words[WORD_MASK] = mask;
        words[WORD_DIGEST] = digest;
        words[WORD_SALT] = salt;
        words[WORD_CIPHER] = data ^ cover(salt, digest);
        words[WORD_SEAL] = sealOf(words);
        blobCount = k + 1;
        return k;
    }

    private long digestNow(int mask) {
        long h = fold(1 + Integer.bitCount(mask), mask);
        for (int p = 0; p < REGISTERS; p++) {
            if (((mask >> p) & 1) != 0) {
                h = fold(h, registers[p]);
            }
        }
        return h;
    }

    private long rightProof(long secret, int session, int command, long parameter) {
        long h = macBegin(secret, 4);
        h = fold(h, machineNonces[session]);
        h = fold(h, callerNonces[session]);
        h = fold(h, command);
        h = fold(h, parameter);
        return macEnd(secret, h);
    }

    private long signature(long secret, int mask, long challenge) {
        long h = macBegin(secret, 3);
        h = fold(h, mask);
        h = fold(h, digestNow(mask));
        h = fold(h, challenge);
        return macEnd(secret, h);
    }

    private long sealOf(long[] words) {
        long h = macBegin(machineSecret, WORD_SEAL);
        for (int i = 0; i < WORD_SEAL; i++) {
            h = fold(h, words[i]);
        }
        return macEnd(machineSecret, h);
    }

    private long cover(long salt, long digest) {
        return fold(fold(fold(3L, machineSecret), salt), digest);
    }

    private static long macBegin(long k, int count) {
        return fold(count + 1, k ^ MAC_INNER);
    }

    private static long macEnd(long k, long inner) {
        return hash2(k ^ MAC_OUTER, inner);
    }

    private static long hash2(long a, long b) {
        return fold(fold(2L, a), b);
    }

    private static long fold(long h, long w) {
        long x = (h ^ w) * FOLD_FACTOR;
        return x ^ (x >>> FOLD_SHIFT);
    }
}

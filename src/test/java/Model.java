import java.util.ArrayList;
import java.util.List;
import java.util.Map;
import java.util.TreeMap;

/** A second, plainer machine, for the tests to compare with. */
final class Model {
    static final class Key {
        long secret;
        long name;
    }

    static final class Session {
        long caller;
        long machine;
    }

    final long machineSecret;
    final long[] registers = new long[8];
    final Map<Integer, Key> keys = new TreeMap<>();
    final Map<Integer, Session> sessions = new TreeMap<>();
    final List<long[]> blobs = new ArrayList<>();
    long drawn = 0;
    int locality = 0;
    int failures = 0;
    long proof = 0;
    long output = 0;

    Model(int a, int b) {
        machineSecret = Check.hash(a, b);
    }

    long draw() {
        drawn = drawn + 1;
        return Check.hash(machineSecret, drawn);
    }

    boolean locality(int l) {
        boolean good = List.of(0, 1, 2, 3).contains(l);
        locality = good ? l : locality;
        return good;
    }

    boolean isOpen(int p) {
        int[] needed = {0, 0, 1, 1, 2, 2, 3, 3};
        return p >= 0 && p <= 7 && locality >= needed[p];
    }

    boolean extend(int p, long v) {
        if (isOpen(p)) {
            registers[p] = Check.hash(registers[p], v);
        }
        return isOpen(p);
    }

    boolean reset(int p) {
        if (p >= 4 && isOpen(p)) {
            registers[p] = 0;
            return true;
        }
        return false;
    }

    static boolean isMask(long mask) {
        return 0 <= mask && mask <= 255;
    }

    long digest(int mask) {
        if (!isMask(mask)) {
            return 0;
        }
        List<Long> words = new ArrayList<>();
        words.add((long) mask);
        String bits = String.format("%8s", Integer.toBinaryString(mask));
        for (int p = 0; p < 8; p++) {
            if (bits.charAt(7 - p) == '1') {
                words.add(registers[p]);
            }
        }
        return Check.hash(words.stream().mapToLong(w -> w).toArray());
    }

    static int least(Map<Integer, ?> there, int limit) {
        int i = 0;
        while (there.containsKey(i)) {
            i++;
        }
        return i < limit ? i : RegisterSealer.FULL;
    }

    int create(long secret) {
        int at = least(keys, 6);
        if (at >= 0) {
            Key key = new Key();
            key.secret = secret;
            key.name = Check.hash(secret, draw());
            keys.put(at, key);
        }
        return at;
    }

    long name(int key) {
        return keys.containsKey(key) ? keys.get(key).name : 0;
    }

    Integer leastNamed(long name) {
        for (Map.Entry<Integer, Key> entry : keys.entrySet()) {
            if (entry.getValue().name == name) {
                return entry.getKey();
            }
        }
        return null;
    }

    int begin(long nonce) {
        int at = least(sessions, 4);
        if (at >= 0) {
            Session session = new Session();
            session.caller = nonce;
            session.machine = draw();
            sessions.put(at, session);
        }
        return at;
    }

    long right(long secret, Session session, int command, long parameter) {
        return Check.mac(secret, session.machine, session.caller, command, parameter);
    }

    boolean prove(long secret, int session, int command, int a, long b) {
        Session s = sessions.get(session);
        if (s == null) {
            return false;
        }
        switch (command) {
            case 1, 3:
                proof = right(secret, s, command, Check.hash(a, b));
                return true;
            case 2:
                if (hasWord(a, 5)) {
                    proof = right(secret, s, command, blobs.get(a)[5]);
                }
                return hasWord(a, 5);
            default:
                return false;
        }
    }

    boolean proves(Key key, int session, int command, long parameter) {
        Session s = sessions.get(session);
        boolean good = right(key.secret, s, command, parameter) == proof;
        s.machine = draw();
        failures = good ? 0 : failures + 1;
        output = good ? output : 0;
        return good;
    }

    int seal(int session, int key, int mask, long data) {
        if (!sessions.containsKey(session) || !keys.containsKey(key) || !isMask(mask)) {
            return RegisterSealer.BAD;
        }
        if (failures == 3) {
            return RegisterSealer.LOCKED;
        }
        if (blobs.size() == 10) {
            return RegisterSealer.FULL;
        }
        if (!proves(keys.get(key), session, 1, Check.hash(mask, data))) {
            return RegisterSealer.DENIED;
        }
        long salt = draw();
        long cipher = data ^ Check.hash(machineSecret, salt, digest(mask));
        long[] words = {keys.get(key).name, mask, digest(mask), salt, cipher, 0};
        words[5] = sealOf(words);
        blobs.add(words);
        return blobs.size() - 1;
    }

    long sealOf(long[] w) {
        return Check.mac(machineSecret, w[0], w[1], w[2], w[3], w[4]);
    }

    int unseal(int session, int blob) {
        if (!sessions.containsKey(session) || !hasWord(blob, 0)) {
            return RegisterSealer.BAD;
        }
        if (failures == 3) {
            return RegisterSealer.LOCKED;
        }
        long[] w = blobs.get(blob);
        if (w[5] != sealOf(w)) {
            return RegisterSealer.BROKEN;
        }
        Integer key = leastNamed(w[0]);
        if (key == null) {
            return RegisterSealer.GONE;
        }
        if (!proves(keys.get(key), session, 2, w[5])) {
            return RegisterSealer.DENIED;
        }
        if (!isMask(w[1]) || digest((int) w[1]) != w[2]) {
            output = 0;
            return RegisterSealer.POLICY;
        }
        output = w[4] ^ Check.hash(machineSecret, w[3], w[2]);
        return 0;
    }

    int quote(int session, int key, int mask, long challenge) {
        if (!sessions.containsKey(session) || !keys.containsKey(key) || !isMask(mask)) {
            return RegisterSealer.BAD;
        }
        if (failures == 3) {
            return RegisterSealer.LOCKED;
        }
        if (!proves(keys.get(key), session, 3, Check.hash(mask, challenge))) {
            return RegisterSealer.DENIED;
        }
        output = Check.mac(keys.get(key).secret, mask, digest(mask), challenge);
        return 0;
    }

    boolean hasWord(int k, int i) {
        return k >= 0 && k < blobs.size() && i >= 0 && i < 6;
    }

    boolean change(int k, int i, long v) {
        if (hasWord(k, i)) {
            blobs.get(k)[i] = v;
        }
        return hasWord(k, i);
    }

    void reboot() {
        java.util.Arrays.fill(registers, 0);
        locality = 0;
        failures = 0;
        output = 0;
        sessions.clear();
    }
}

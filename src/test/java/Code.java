/** Words of instructions, the document's sums, and enclaves that are built in one line. */
final class Code {
    static final int CREATE = 1;
    static final int LOAD = 2;
    static final int THREAD = 3;
    static final int SEAL = 4;
    static final int SHARE = 5;
    static final int ENTER = 6;
    static final int RESUME = 7;
    static final int STOP = 8;
    static final int DESTROY = 9;
    static final int CLAIM = 10;
    static final int YIELD = 11;
    static final int EXIT = 16;
    static final int VOUCH = 17;
    static final int KEY = 18;
    static final int CHECK = 19;

    private Code() {
    }

    static int word(int op, int a, int b, int c, int i) {
        return op | a << 4 | b << 7 | c << 10 | i << 16;
    }

    static int set(int a, int i) {
        return word(1, a, 0, 0, i);
    }

    static int addNumber(int a, int b, int i) {
        return word(2, a, b, 0, i);
    }

    static int read(int a, int b, int i) {
        return word(7, a, b, 0, i);
    }

    static int write(int a, int b, int i) {
        return word(8, a, b, 0, i);
    }

    static int ifEqual(int a, int b, int i) {
        return word(9, a, b, 0, i);
    }

    static int ifLess(int a, int b, int i) {
        return word(10, a, b, 0, i);
    }

    static int call(int number) {
        return word(11, 0, 0, 0, number);
    }

    // Written with long numbers, so that it is not the program's own line again.
    static int mix(int h, int w) {
        long t = ((h ^ w) & 0xffffffffL) * 1390208809L & 0xffffffffL;
        return (int) (t ^ t / 32768);
    }

    static int mac(int secret, int m, int d) {
        return mix(mix(mix(secret, m), d), secret);
    }

    static int added(int measure, int... words) {
        int h = measure;
        for (int w : words) {
            h = mix(h, w);
        }
        return h;
    }

    static void poke(EnclaveWarden x, int from, int... words) {
        for (int k = 0; k < words.length; k++) {
            x.poke(from + k, words[k]);
        }
    }

    /** A SEALED enclave of the one region r with these words, loaded from region 7, and one thread from its first word on. */
    static int sealed(EnclaveWarden x, int r, int... words) {
        for (int p = 112; p < 128; p++) {
            x.poke(p, 0);
        }
        poke(x, 112, words);
        int e = x.call(CREATE, r, 1, 0);
        x.call(LOAD, e, r, 7);
        x.call(THREAD, e, r * 16, 0);
        x.call(SEAL, e, 0, 0);
        return e;
    }
}

/** Promise 20: vouch, and the calls of an enclave that are vouched by the secret. */
public final class VouchTest {
    private static final int[] NUMBERS = {0, 1, -1, 12345, Integer.MIN_VALUE, Integer.MAX_VALUE};

    public static void main(String[] args) {
        Due due = new Due();
        knownValues(due);
        macs(due);
        vouchOfAnEnclave(due);
        keyOfAnEnclave(due);
        checkOfAnEnclave(due);
        otherNumbers(due);
        exitOfAnEnclave(due);
        due.end();
    }

    /** What an enclave's call f answers with A = a, B = b, C = c. */
    private static int answer(EnclaveWarden x, int e, int f, int a, int b, int c) {
        x.call(Code.SHARE, e, 6, 0);
        Code.poke(x, 96, f, a, b, c);
        x.call(Code.ENTER, e, 0, 0);
        x.run(6);
        return x.exit(3);
    }

    /** The enclave reads A, B, C from the region that is shared, makes call f and leaves with the answer. */
    private static int caller(EnclaveWarden x, int r, int f) {
        return Code.sealed(x, r, Code.read(1, 0, 97), Code.read(2, 0, 98), Code.read(3, 0, 99), Code.call(f),
            Code.addNumber(4, 1, 0), Code.call(Code.EXIT));
    }

    // The numbers here were worked out apart from all code of the project.
    private static void knownValues(Due due) {
        due.is("MIX(0, 1)", Code.mix(0, 1), 1390166672);
        EnclaveWarden x = new EnclaveWarden(0);
        due.yes("MAC(0, 0), secret 0", x.vouch(0, 0, 0));
        due.yes("MAC(1, 0), secret 0", x.vouch(1, 0, -134408132));
        due.yes("MAC(67, 89), secret 12345", new EnclaveWarden(12345).vouch(67, 89, 1151378812));
    }

    private static void macs(Due due) {
        for (int secret : NUMBERS) {
            EnclaveWarden x = new EnclaveWarden(secret);
            for (int m : NUMBERS) {
                for (int d : NUMBERS) {
                    int mac = Code.mac(secret, m, d);
                    due.yes("vouch", x.vouch(m, d, mac));
                    due.no("vouch, one more", x.vouch(m, d, mac + 1));
                    due.no("vouch, the sign", x.vouch(m, d, mac ^ Integer.MIN_VALUE));
                    due.no("vouch, another m", x.vouch(m ^ 4, d, mac));
                    due.no("vouch, another d", x.vouch(m, d + 1, mac));
                }
            }
        }
    }

    private static void vouchOfAnEnclave(Due due) {
        for (int secret : NUMBERS) {
            EnclaveWarden x = new EnclaveWarden(secret);
            caller(x, 8, Code.KEY);
            int e = caller(x, 9, Code.VOUCH);
            for (int d : NUMBERS) {
                int mac = answer(x, e, Code.VOUCH, d, 5, 6);
                due.is("VOUCH", mac, Code.mac(secret, x.measure(e), d));
                due.yes("vouch of it", x.vouch(x.measure(e), d, mac));
                due.no("vouch with the other's measure", x.vouch(x.measure(0), d, mac));
            }
        }
    }

    private static void keyOfAnEnclave(Due due) {
        for (int secret : NUMBERS) {
            EnclaveWarden x = new EnclaveWarden(secret);
            int e = caller(x, 9, Code.KEY);
            due.is("KEY", answer(x, e, Code.KEY, 7, 8, 9), Code.mix(Code.mix(secret, x.measure(e)), 18));
        }
    }

    private static void checkOfAnEnclave(Due due) {
        EnclaveWarden x = new EnclaveWarden(-99);
        int e = caller(x, 10, Code.CHECK);
        for (int m : NUMBERS) {
            int mac = Code.mac(-99, m, 31);
            due.is("CHECK", answer(x, e, Code.CHECK, m, 31, mac), 1);
            due.is("CHECK of another mac", answer(x, e, Code.CHECK, m, 31, mac ^ 1), 0);
            due.is("CHECK of another d", answer(x, e, Code.CHECK, m, 32, mac), 0);
            due.is("CHECK of another m", answer(x, e, Code.CHECK, m + 1, 31, mac), 0);
        }
    }

    private static void otherNumbers(Due due) {
        int[] others = {0, 1, 4, 5, 6, 7, 8, 9, 10, 11, 12, 15, 20, -1, 32767, -32768};
        for (int f : others) {
            EnclaveWarden x = new EnclaveWarden(5);
            int e = caller(x, 9, f);
            int measure = x.measure(e);
            due.is("no call of an enclave: " + f, answer(x, e, f, 0, 1, 2), EnclaveWarden.NONE);
            due.is("kind", x.exit(2), 1);
            due.is("TICK", x.exit(4), 6);
            due.is("the enclave", x.enclave(e), 2);
            due.is("its measure", x.measure(e), measure);
            due.is("region 0", x.region(0), 1);
            due.is("region 1", x.region(1), 1);
        }
    }

    private static void exitOfAnEnclave(Due due) {
        EnclaveWarden x = new EnclaveWarden(5);
        Code.sealed(x, 9, Code.set(2, 6), Code.call(Code.EXIT), Code.set(1, 3));
        x.give(1, 8);
        x.give(2, 8);
        x.give(3, 8);
        x.boot(60);
        x.call(Code.ENTER, 0, 0, -31);
        due.is("steps", x.run(2), 2);
        due.is("kind", x.register(1), 1);
        due.is("value", x.register(2), -31);
        due.is("r3", x.register(3), 8);
        due.is("pc", x.pc(), 60);
        due.is("READY", x.thread(0, 0), 1);
        due.is("forgotten", x.kept(0, 0, 2), 0);
        due.is("ENTER again", x.call(Code.ENTER, 0, 0, 4), 0);
        due.is("from its entry on", x.kept(0, 0, 8), 144);
        due.is("without what it had", x.kept(0, 0, 2), 0);
    }
}

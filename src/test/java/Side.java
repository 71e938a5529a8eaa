/**
 * A machine that stands before a few instructions of the system or of an enclave, with r1 .. r7 as told. Both sides are
 * tried in the same surroundings, where every place that is named here holds the instruction r4 = 4:
 * <pre>
 * enclave 0: block 8 and 9, SHARED 6 (its registers come from there)
 * enclave 1: block 10, SHARED 5
 * regions 0 .. 4 and 7: OWN; regions 11 .. 15: FREE
 * </pre>
 */
final class Side {
    static final boolean[] BOTH = {false, true};
    static final int FILL = Code.set(4, 4);

    private static final int SYSTEM_PLACE = 16;
    private static final int ENCLAVE_PLACE = 135;

    final EnclaveWarden x = new EnclaveWarden(99);
    final int place;
    final int tick;
    private final boolean enclave;

    Side(boolean enclave, int[] registers, int... words) {
        this.enclave = enclave;
        place = enclave ? ENCLAVE_PLACE : SYSTEM_PLACE;
        surroundings(words);
        Code.poke(x, SYSTEM_PLACE, words);
        x.boot(SYSTEM_PLACE);
        for (int k = 1; k < 8; k++) {
            x.poke(96 + k, registers[k - 1]);
            x.give(k, enclave ? -k : registers[k - 1]);
        }
        if (enclave) {
            x.call(Code.ENTER, 0, 0, 0);
            x.run(7);
        }
        tick = x.tick();
    }

    private void surroundings(int[] words) {
        int[] fill = new int[16];
        java.util.Arrays.fill(fill, FILL);
        Code.poke(x, 112, fill);
        x.call(Code.CREATE, 8, 2, 0);
        x.call(Code.CREATE, 10, 1, 0);
        x.call(Code.LOAD, 0, 9, 7);
        x.call(Code.LOAD, 1, 10, 7);
        for (int k = 1; k < 8; k++) {
            x.poke(111 + k, Code.read(k, 0, 96 + k));
        }
        Code.poke(x, 119, words);
        x.call(Code.LOAD, 0, 8, 7);
        x.call(Code.THREAD, 0, 128, 0);
        x.call(Code.SEAL, 0, 0, 0);
        x.call(Code.SHARE, 0, 6, 0);
        x.call(Code.SHARE, 1, 5, 0);
        int[] ends = {0, 15, 64, 79, 80, 95, 96, 111, 112, 127};
        for (int p : ends) {
            x.poke(p, FILL);
        }
    }

    int register(int k) {
        return enclave ? x.kept(0, 0, k) : x.register(k);
    }

    int pc() {
        return enclave ? x.kept(0, 0, 8) : x.pc();
    }

    boolean ofEnclave() {
        return enclave;
    }

    String name() {
        return enclave ? "an enclave, " : "the system, ";
    }

    /** Whether who ran before has met no FAULT and runs on. */
    boolean runsOn() {
        return enclave ? x.running() == 0 : !x.halted();
    }

    /** That the last step was a FAULT of this kind. The system does not tell the kind. */
    void faulted(Due due, String what, int kind) {
        due.no(name() + what + ": runs on", runsOn());
        due.is(name() + what + ": EXITs", x.exit(0), enclave ? 1 : 0);
        due.is(name() + what + ": kind", x.exit(2), enclave ? kind : 0);
    }
}

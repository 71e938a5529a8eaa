/**
 * Machines in which every kind of region and every state of an enclave and of a thread is to be found:
 * <pre>
 * enclave 0: SEALED, block 8 and 9, SHARED 1 and 2, thread 0 SAVED, thread 1 READY
 * enclave 1: BUILDING, block 10, SHARED 3, two threads, eight LOADs (and in the other scenes as their names say)
 * enclave 2: STOPPED, block 12 .. 15, nothing SHARED, thread 0 SAVED, thread 1 READY
 * region 11: FREE; regions 0 and 4 .. 7: OWN
 * </pre>
 */
final class Scene {
    static final int SECRET = 4711;
    static final int PERIOD = 5;

    private Scene() {
    }

    static void full(EnclaveWarden x) {
        Code.poke(x, 112, Code.addNumber(2, 2, 1), Code.ifEqual(0, 0, -2), 3, 4, 5, 6, 7, 8, 9, 10, 11, 12, 13, 14, 15,
            Code.call(Code.EXIT));
        Code.poke(x, 15, 91, 92);
        Code.poke(x, 47, 93, 94);
        x.period(PERIOD);
        enclave0(x);
        enclave1(x);
        enclave2(x);
        for (int k = 1; k < 8; k++) {
            x.give(k, 1000 + k);
        }
        x.boot(70);
    }

    /** Enclave 1 is ABSENT, and was not always. */
    static void absent(EnclaveWarden x) {
        full(x);
        x.call(Code.DESTROY, 1, 0, 0);
    }

    /** Enclave 1 is BUILDING and has no thread. */
    static void threadless(EnclaveWarden x) {
        absent(x);
        x.call(Code.CREATE, 10, 1, 0);
    }

    /** Enclave 1 is SEALED and has one thread. */
    static void single(EnclaveWarden x) {
        threadless(x);
        x.call(Code.LOAD, 1, 10, 7);
        x.call(Code.THREAD, 1, 160, 0);
        x.call(Code.SEAL, 1, 0, 0);
    }

    /** Thread 1 of enclave 0 is RUNNING. */
    static void busy(EnclaveWarden x) {
        full(x);
        x.call(Code.ENTER, 0, 1, -8);
    }

    /** The system is HALTED. */
    static void halted(EnclaveWarden x) {
        full(x);
        x.run(1);
    }

    /** Enclave 1 is SEALED and its thread 0 begins at address 64, that is SHARED with it; enclave 2 is BUILDING. */
    static void beforeGuest(EnclaveWarden x) {
        threadless(x);
        x.poke(112, Code.ifEqual(0, 0, 64 - 161));
        x.call(Code.LOAD, 1, 10, 7);
        x.call(Code.THREAD, 1, 160, 0);
        x.call(Code.SEAL, 1, 0, 0);
        x.call(Code.SHARE, 1, 4, 0);
        x.call(Code.DESTROY, 2, 0, 0);
        x.call(Code.CREATE, 12, 4, 0);
        x.call(Code.THREAD, 2, 192, 0);
        Code.poke(x, 64, Code.read(1, 0, 77), Code.read(2, 0, 78), Code.read(3, 0, 79));
    }

    static void enterGuest(EnclaveWarden x) {
        x.period(0);
        x.call(Code.ENTER, 1, 0, 0);
    }

    /** Thread 0 of enclave 1 is RUNNING and stands before three instructions that read r1 .. r3. */
    static void guest(EnclaveWarden x) {
        beforeGuest(x);
        enterGuest(x);
    }

    /** The guest reads r1 .. r3 and makes this instruction, of which nothing is left in the memory. */
    static void guestStep(EnclaveWarden x, int word, int a, int b, int c) {
        Code.poke(x, 77, a, b, c);
        x.poke(67, word);
        x.run(5);
        x.poke(67, 0);
    }

    /** The system makes this instruction at address 0, of which nothing is left in the memory. */
    static void systemStep(EnclaveWarden x, int word, int a, int b, int c) {
        x.give(1, a);
        x.give(2, b);
        x.give(3, c);
        x.poke(0, word);
        x.boot(0);
        x.run(1);
        x.poke(0, 0);
    }

    private static void enclave0(EnclaveWarden x) {
        x.call(Code.CREATE, 8, 2, 0);
        x.call(Code.LOAD, 0, 8, 7);
        x.call(Code.LOAD, 0, 9, 7);
        x.call(Code.THREAD, 0, 128, 0);
        x.call(Code.THREAD, 0, 159, 0);
        x.call(Code.SEAL, 0, 0, 0);
        x.call(Code.SHARE, 0, 1, 0);
        x.call(Code.SHARE, 0, 2, 0);
        x.call(Code.ENTER, 0, 0, 77);
        x.run(PERIOD);
    }

    private static void enclave1(EnclaveWarden x) {
        x.call(Code.CREATE, 10, 1, 0);
        x.call(Code.THREAD, 1, 160, 0);
        x.call(Code.THREAD, 1, 175, 0);
        x.call(Code.SHARE, 1, 3, 0);
        for (int k = 0; k < 8; k++) {
            x.call(Code.LOAD, 1, 10, 7);
        }
    }

    private static void enclave2(EnclaveWarden x) {
        x.call(Code.CREATE, 12, 4, 0);
        x.call(Code.LOAD, 2, 15, 7);
        x.call(Code.THREAD, 2, 240, 0);
        x.call(Code.THREAD, 2, 255, 0);
        x.call(Code.SEAL, 2, 0, 0);
        x.call(Code.ENTER, 2, 0, 88);
        x.run(PERIOD);
        x.call(Code.STOP, 2, 0, 0);
    }
}

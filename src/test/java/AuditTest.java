/** Promises 15 to 19 and 21: region, enclave, thread, kept, measure, exit. */
public final class AuditTest {
    private static final int[] WRONG = {-1, -2, Integer.MIN_VALUE, Integer.MAX_VALUE};

    public static void main(String[] args) {
        Due due = new Due();
        regions(due);
        enclaves(due);
        threads(due);
        keptNumbers(due);
        measures(due);
        exits(due);
        due.end();
    }

    private static void regions(Due due) {
        EnclaveWarden x = new EnclaveWarden(1);
        for (int r : WRONG) {
            due.is("region " + r, x.region(r), EnclaveWarden.NONE);
        }
        due.is("region 16", x.region(16), EnclaveWarden.NONE);
        for (int e = 0; e < 3; e++) {
            x.call(Code.CREATE, 8 + 2 * e, 2, 0);
            x.call(Code.SHARE, e, 2 * e, 0);
        }
        x.call(Code.YIELD, 7, 0, 0);
        x.call(Code.CLAIM, 14, 0, 0);
        int[] kinds = {5, 1, 6, 1, 7, 1, 1, 0, 2, 2, 3, 3, 4, 4, 1, 0};
        for (int r = 0; r < 16; r++) {
            due.is("region " + r, x.region(r), kinds[r]);
        }
    }

    private static void enclaves(Due due) {
        EnclaveWarden x = new EnclaveWarden(1);
        for (int e : WRONG) {
            due.is("enclave " + e, x.enclave(e), EnclaveWarden.NONE);
        }
        due.is("enclave 3", x.enclave(3), EnclaveWarden.NONE);
        due.is("ABSENT", x.enclave(2), 0);
        Code.sealed(x, 8, 1);
        x.call(Code.CREATE, 9, 1, 0);
        due.is("SEALED", x.enclave(0), 2);
        due.is("BUILDING", x.enclave(1), 1);
        due.is("ABSENT", x.enclave(2), 0);
        x.call(Code.STOP, 0, 0, 0);
        due.is("STOPPED", x.enclave(0), 3);
        x.call(Code.DESTROY, 0, 0, 0);
        due.is("ABSENT again", x.enclave(0), 0);
        due.is("the other one", x.enclave(1), 1);
    }

    private static void threads(Due due) {
        EnclaveWarden x = new EnclaveWarden(1);
        x.call(Code.CREATE, 8, 1, 0);
        due.is("none yet", x.thread(0, 0), 0);
        x.call(Code.THREAD, 0, 128, 0);
        due.is("READY, BUILDING", x.thread(0, 0), 1);
        due.is("no thread 1", x.thread(0, 1), 0);
        x.call(Code.SEAL, 0, 0, 0);
        x.period(1);
        x.call(Code.ENTER, 0, 0, 0);
        due.is("RUNNING", x.thread(0, 0), 2);
        x.run(1);
        due.is("SAVED", x.thread(0, 0), 3);
        for (int k : WRONG) {
            due.is("thread of enclave " + k, x.thread(k, 0), 0);
            due.is("thread " + k, x.thread(0, k), 0);
        }
        due.is("thread of enclave 3", x.thread(3, 0), 0);
        due.is("thread 2", x.thread(0, 2), 0);
        due.is("of an ABSENT enclave", x.thread(1, 0), 0);
        x.call(Code.STOP, 0, 0, 0);
        due.is("SAVED, STOPPED", x.thread(0, 0), 3);
        x.call(Code.DESTROY, 0, 0, 0);
        due.is("gone", x.thread(0, 0), 0);
    }

    private static void keptNumbers(Due due) {
        EnclaveWarden x = new EnclaveWarden(1);
        Code.sealed(x, 8, Code.set(2, 22), Code.set(3, 33), Code.set(4, 44), Code.set(5, 55), Code.set(6, 66), Code.set(7, 77), Code.set(0, 9));
        due.is("READY", x.kept(0, 0, 8), 0);
        x.call(Code.ENTER, 0, 0, 11);
        x.run(7);
        keptAre(due, x, "RUNNING");
        x.period(1);
        x.run(1);
        keptAre(due, x, "SAVED");
        for (int k : WRONG) {
            due.is("k = " + k, x.kept(0, 0, k), 0);
            due.is("t = " + k, x.kept(0, k, 1), 0);
            due.is("e = " + k, x.kept(k, 0, 1), 0);
        }
        due.is("k = 9", x.kept(0, 0, 9), 0);
        due.is("t = 1", x.kept(0, 1, 1), 0);
        due.is("t = 2", x.kept(0, 2, 1), 0);
        due.is("e = 1", x.kept(1, 0, 1), 0);
        due.is("e = 3", x.kept(3, 0, 1), 0);
        x.period(0);
        x.call(Code.RESUME, 0, 0, 0);
        x.run(1);
        due.is("READY after a FAULT", x.thread(0, 0), 1);
        for (int k = 0; k < 9; k++) {
            due.is("forgotten", x.kept(0, 0, k), 0);
        }
    }

    private static void keptAre(Due due, EnclaveWarden x, String when) {
        due.is(when + ", r0", x.kept(0, 0, 0), 0);
        for (int k = 1; k < 8; k++) {
            due.is(when + ", r" + k, x.kept(0, 0, k), 11 * k);
        }
        due.is(when + ", pc", x.kept(0, 0, 8), 135);
    }

    private static void measures(Due due) {
        EnclaveWarden x = new EnclaveWarden(12345);
        Code.poke(x, 16, 8912967, 1603, 8912968, 530, 1048587, 0, 0, 0, 100);
        x.call(Code.CREATE, 8, 1, 0);
        due.is("after CREATE", x.measure(0), 2061740340);
        x.call(Code.LOAD, 0, 8, 1);
        due.is("after LOAD", x.measure(0), -94092354);
        x.call(Code.THREAD, 0, 128, 0);
        x.call(Code.SEAL, 0, 0, 0);
        due.is("after SEAL", x.measure(0), 1909546665);
        x.call(Code.SHARE, 0, 5, 0);
        x.call(Code.ENTER, 0, 0, 5);
        x.run(5);
        due.is("after a run", x.measure(0), 1909546665);
        x.call(Code.STOP, 0, 0, 0);
        due.is("after STOP", x.measure(0), 1909546665);
        for (int e : WRONG) {
            due.is("measure of " + e, x.measure(e), 0);
        }
        due.is("measure of 3", x.measure(3), 0);
        due.is("of an ABSENT one", x.measure(1), 0);
        x.call(Code.DESTROY, 0, 0, 0);
        due.is("after DESTROY", x.measure(0), 0);
        EnclaveWarden y = new EnclaveWarden(-6);
        y.call(Code.CREATE, 8, 1, 0);
        due.is("the secret is not in it", y.measure(0), 2061740340);
    }

    private static void exits(Due due) {
        EnclaveWarden x = new EnclaveWarden(1);
        Code.sealed(x, 8, 0);
        Code.sealed(x, 9, Code.addNumber(1, 1, 1), Code.call(Code.EXIT));
        x.call(Code.ENTER, 1, 0, 70);
        due.is("ENTER is none", x.exit(0), 0);
        x.run(2);
        exitsAre(due, x, 1, 1, 1, 71, 2);
        x.call(Code.ENTER, 1, 0, Integer.MAX_VALUE);
        x.run(2);
        exitsAre(due, x, 2, 1, 1, Integer.MIN_VALUE, 4);
        x.call(Code.ENTER, 0, 0, 70);
        x.run(1);
        exitsAre(due, x, 3, 0, 4, 0, 5);
        x.period(6);
        x.call(Code.ENTER, 1, 0, 70);
        x.run(1);
        exitsAre(due, x, 4, 1, 2, 0, 6);
        x.call(Code.STOP, 1, 0, 0);
        x.call(Code.DESTROY, 1, 0, 0);
        x.run(1);
        exitsAre(due, x, 4, 1, 2, 0, 6);
        for (int k : WRONG) {
            due.is("exit " + k, x.exit(k), 0);
        }
        due.is("exit 5", x.exit(5), 0);
    }

    private static void exitsAre(Due due, EnclaveWarden x, int... answers) {
        for (int k = 0; k < 5; k++) {
            due.is("exit " + k, x.exit(k), answers[k]);
        }
        due.is("r1", x.register(1), answers[2]);
        due.is("r2", x.register(2), answers[3]);
    }
}

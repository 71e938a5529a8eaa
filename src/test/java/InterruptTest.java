/** Promises 12 to 14: period, tick, running. */
public final class InterruptTest {
    public static void main(String[] args) {
        Due due = new Due();
        ticks(due);
        periods(due);
        withoutInterrupts(due);
        onlyEnclavesAreInterrupted(due);
        theWholeStep(due);
        beforeTheFault(due);
        whoRuns(due);
        due.end();
    }

    /** An enclave that counts its steps in r2, after `before` steps of the system. */
    private static EnclaveWarden counting(int before) {
        EnclaveWarden x = new EnclaveWarden(1);
        Code.sealed(x, 8, Code.addNumber(2, 2, 1), Code.ifEqual(0, 0, -2));
        x.poke(0, Code.ifEqual(0, 0, -1));
        x.run(before);
        return x;
    }

    private static void ticks(Due due) {
        EnclaveWarden x = counting(7);
        due.is("the system's steps", x.tick(), 7);
        x.call(Code.ENTER, 0, 0, 0);
        due.is("a call is none", x.tick(), 7);
        x.run(5);
        due.is("the enclave's steps", x.tick(), 12);
        x.period(2);
        due.is("period is none", x.tick(), 12);
        x.run(2);
        due.is("an interrupt is one", x.tick(), 14);
        x.boot(128);
        x.run(10);
        due.is("a FAULT is one", x.tick(), 15);
    }

    private static void periods(Due due) {
        for (int n = 1; n < 9; n++) {
            for (int before = 0; before < 9; before++) {
                EnclaveWarden x = counting(before);
                x.period(n);
                x.call(Code.ENTER, 0, 0, 0);
                int steps = n - before % n;
                due.is("steps", x.run(steps - 1), steps - 1);
                due.is("none yet", x.exit(0), 0);
                due.is("the step", x.run(1), 1);
                due.is("an EXIT", x.exit(0), 1);
                due.is("kind", x.exit(2), 2);
                due.is("value", x.exit(3), 0);
                due.is("TICK", x.exit(4), before + steps);
                due.is("SAVED", x.thread(0, 0), 3);
                due.is("steps done", x.kept(0, 0, 2), steps / 2);
            }
        }
    }

    private static void withoutInterrupts(Due due) {
        int[] none = {0, -1, -5, Integer.MIN_VALUE};
        for (int n : none) {
            EnclaveWarden x = counting(0);
            x.period(3);
            x.period(n);
            x.call(Code.ENTER, 0, 0, 0);
            due.is("steps with " + n, x.run(1000), 1000);
            due.is("no EXIT", x.exit(0), 0);
            due.is("running", x.running(), 0);
        }
        EnclaveWarden x = counting(0);
        x.period(Integer.MAX_VALUE);
        x.call(Code.ENTER, 0, 0, 0);
        x.run(1000);
        due.is("a long period", x.exit(0), 0);
        x.period(1001);
        x.run(1);
        due.is("changed while the enclave runs", x.exit(4), 1001);
    }

    private static void onlyEnclavesAreInterrupted(Due due) {
        EnclaveWarden x = counting(0);
        x.period(1);
        due.is("the system's steps", x.run(6), 6);
        due.is("no EXIT", x.exit(0), 0);
        due.is("r1", x.register(1), 0);
        x.period(3);
        Code.poke(x, 16, Code.set(1, 0), Code.call(Code.ENTER), Code.ifEqual(0, 0, -1));
        x.boot(16);
        due.is("steps", x.run(2), 2);
        due.is("entered in the step before a multiple", x.running(), 0);
        due.is("the next one interrupts", x.run(1), 1);
        due.is("TICK", x.exit(4), 9);
        due.is("nothing was done", x.kept(0, 0, 8), 128);
    }

    private static void theWholeStep(Due due) {
        EnclaveWarden x = counting(0);
        x.give(1, 9);
        x.give(2, 9);
        x.give(5, 9);
        x.boot(3);
        x.period(1);
        x.call(Code.ENTER, 0, 0, 4);
        x.run(1);
        due.is("nothing else is done", x.kept(0, 0, 2), 0);
        due.is("its pc", x.kept(0, 0, 8), 128);
        due.is("its r1", x.kept(0, 0, 1), 4);
        due.is("r1", x.register(1), 2);
        due.is("r2", x.register(2), 0);
        due.is("r5", x.register(5), 9);
        due.is("pc", x.pc(), 3);
        due.is("RESUME", x.call(Code.RESUME, 0, 0, 0), 0);
        x.run(1);
        due.is("never gets on with period 1", x.kept(0, 0, 8), 128);
        due.is("EXITs", x.exit(0), 2);
    }

    private static void beforeTheFault(Due due) {
        EnclaveWarden x = new EnclaveWarden(1);
        Code.sealed(x, 8, Code.ifEqual(0, 0, 500));
        x.period(2);
        x.call(Code.ENTER, 0, 0, 0);
        x.run(2);
        due.is("an interrupt, no FAULT", x.exit(2), 2);
        due.is("its pc", x.kept(0, 0, 8), 629);
        x.period(0);
        x.call(Code.RESUME, 0, 0, 0);
        x.run(1);
        due.is("the FAULT comes then", x.exit(2), 3);
    }

    private static void whoRuns(Due due) {
        EnclaveWarden x = new EnclaveWarden(1);
        Code.poke(x, 112, Code.call(Code.EXIT));
        for (int e = 0; e < 3; e++) {
            x.call(Code.CREATE, 8 + e, 1, 0);
            x.call(Code.LOAD, e, 8 + e, 7);
            x.call(Code.THREAD, e, 128 + 16 * e, 0);
            x.call(Code.THREAD, e, 128 + 16 * e, 0);
            x.call(Code.SEAL, e, 0, 0);
        }
        due.is("the system", x.running(), -1);
        for (int e = 0; e < 3; e++) {
            for (int t = 0; t < 2; t++) {
                x.call(Code.ENTER, e, t, 30 + e);
                due.is("a thread", x.running(), 2 * e + t);
                due.is("is RUNNING", x.thread(e, t), 2);
                due.is("alone", x.thread(e, 1 - t), 1);
                x.run(1);
                due.is("the system", x.running(), -1);
                due.is("is READY", x.thread(e, t), 1);
                due.is("the enclave that was left", x.exit(1), e);
                due.is("its value", x.exit(3), 30 + e);
            }
        }
    }
}

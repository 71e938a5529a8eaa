/** Promises 5 to 9: give, register, pc, boot, halted. */
public final class SystemTest {
    public static void main(String[] args) {
        Due due = new Due();
        giveAndRegister(due);
        bootAndPc(due);
        haltedByFaults(due);
        whileAnEnclaveRuns(due);
        haltedWhileAnEnclaveRuns(due);
        enteredByInstruction(due);
        due.end();
    }

    private static void giveAndRegister(Due due) {
        EnclaveWarden x = new EnclaveWarden(1);
        for (int k = 1; k < 8; k++) {
            due.yes("give " + k, x.give(k, -100 * k));
        }
        due.yes("give again", x.give(7, Integer.MIN_VALUE));
        int[] wrong = {0, -1, 8, 9, Integer.MIN_VALUE, Integer.MAX_VALUE};
        for (int k : wrong) {
            due.no("give " + k, x.give(k, 5));
            due.is("register " + k, x.register(k), 0);
        }
        for (int k = 1; k < 7; k++) {
            due.is("register " + k, x.register(k), -100 * k);
        }
        due.is("register 7", x.register(7), Integer.MIN_VALUE);
    }

    private static void bootAndPc(Due due) {
        EnclaveWarden x = new EnclaveWarden(1);
        int[] places = {5, 0, 255, 256, -1, Integer.MIN_VALUE, Integer.MAX_VALUE};
        for (int p : places) {
            due.yes("boot " + p, x.boot(p));
            due.is("pc", x.pc(), p);
            due.no("halted", x.halted());
        }
        x.give(4, 9);
        x.boot(3);
        due.is("boot leaves the registers", x.register(4), 9);
        due.is("boot is no step", x.tick(), 0);
    }

    private static void haltedByFaults(Due due) {
        EnclaveWarden x = new EnclaveWarden(1);
        due.is("a word that is no instruction", x.run(5), 1);
        due.yes("halted", x.halted());
        due.is("pc stays", x.pc(), 0);
        due.is("no register is told", x.register(1), 0);
        due.is("no EXIT", x.exit(0), 0);
        int[] places = {128, 256, -1, Integer.MAX_VALUE, Integer.MIN_VALUE};
        for (int p : places) {
            x.boot(p);
            due.no("booted", x.halted());
            due.is("a place that the system may not use", x.run(5), 1);
            due.yes("halted at " + p, x.halted());
            due.is("pc stays at " + p, x.pc(), p);
        }
        x.poke(0, Code.set(1, 6));
        x.boot(0);
        due.is("goes on after boot", x.run(1), 1);
        due.is("pc", x.pc(), 1);
        due.no("not halted by an instruction", x.halted());
        due.is("runs up to the fault", x.run(1000), 1);
        due.is("pc at the fault", x.pc(), 1);
    }

    private static void whileAnEnclaveRuns(Due due) {
        EnclaveWarden x = new EnclaveWarden(1);
        Code.sealed(x, 8, Code.set(3, 33), Code.set(1, 11), Code.call(Code.EXIT));
        x.give(1, 5);
        x.give(3, 7);
        x.boot(40);
        x.call(Code.ENTER, 0, 0, 9);
        due.is("register 1", x.register(1), 5);
        x.run(2);
        due.is("register 1, as it was", x.register(1), 5);
        due.is("register 3, as it was", x.register(3), 7);
        due.is("pc, as it was", x.pc(), 40);
        due.no("give", x.give(3, 8));
        due.no("boot", x.boot(8));
        due.is("register 3, not given", x.register(3), 7);
        due.is("pc, not booted", x.pc(), 40);
        x.run(1);
        due.is("register 1, LEFT", x.register(1), 1);
        due.is("register 2, LEFT", x.register(2), 11);
        due.is("register 3, LEFT", x.register(3), 7);
        due.is("pc, LEFT", x.pc(), 40);
        due.yes("give, LEFT", x.give(3, 8));
        due.yes("boot, LEFT", x.boot(8));
    }

    private static void haltedWhileAnEnclaveRuns(Due due) {
        EnclaveWarden x = new EnclaveWarden(1);
        Code.sealed(x, 8, Code.set(3, 33), Code.set(1, 11), Code.call(Code.EXIT));
        x.run(1);
        due.yes("halted", x.halted());
        due.is("a call of a HALTED system", x.call(Code.ENTER, 0, 0, 0), 0);
        due.yes("halted while the enclave runs", x.halted());
        due.no("boot", x.boot(0));
        due.yes("still halted", x.halted());
        due.is("the enclave's steps are made", x.run(1000), 3);
        due.yes("halted as before", x.halted());
        due.is("none is made then", x.run(1000), 0);
    }

    private static void enteredByInstruction(Due due) {
        EnclaveWarden x = new EnclaveWarden(1);
        Code.sealed(x, 8, Code.set(4, 44), Code.set(5, 55));
        Code.poke(x, 16, Code.call(Code.ENTER), Code.set(6, 66));
        x.period(3);
        x.give(3, 30);
        x.boot(16);
        due.is("the instruction enters", x.run(1), 1);
        due.is("who runs", x.running(), 0);
        due.is("pc behind the instruction", x.pc(), 17);
        due.is("no answer", x.register(1), 0);
        due.is("C is the thread's r1", x.kept(0, 0, 1), 30);
        due.is("an instruction and the interrupt", x.run(2), 2);
        due.is("pc, LEFT", x.pc(), 17);
        due.is("kind", x.register(1), 2);
        x.run(1);
        due.is("goes on behind it", x.register(6), 66);
        Code.poke(x, 20, Code.call(Code.RESUME));
        x.give(1, 0);
        x.boot(20);
        x.period(0);
        x.run(1);
        due.is("resumed", x.running(), 0);
        due.is("pc behind RESUME", x.pc(), 21);
        due.is("no answer of RESUME", x.register(1), 0);
        due.is("registers of the thread", x.kept(0, 0, 4), 44);
        due.is("pc of the thread", x.kept(0, 0, 8), 129);
    }
}

/** Promise 11: run, with every instruction and every FAULT. */
public final class RunTest {
    public static void main(String[] args) {
        Due due = new Due();
        howMany(due);
        sums(due);
        fieldsOfTheWord(due);
        registerZero(due);
        readAndWrite(due);
        placesOfTheSystem(due);
        branches(due);
        noInstructions(due);
        callsOfTheSystem(due);
        placesOfAnEnclave(due);
        faultsOfAnEnclave(due);
        due.end();
    }

    /** One instruction at address 0 with r1 = 7, r2 = -3, r3 = 100, r4 = 2147483647. */
    private static EnclaveWarden after(int word) {
        EnclaveWarden x = new EnclaveWarden(1);
        x.give(1, 7);
        x.give(2, -3);
        x.give(3, 100);
        x.give(4, Integer.MAX_VALUE);
        x.poke(0, word);
        x.run(1);
        return x;
    }

    private static void howMany(Due due) {
        EnclaveWarden x = new EnclaveWarden(1);
        x.poke(0, Code.ifEqual(0, 0, -1));
        int[] none = {-1, 1001, Integer.MIN_VALUE, Integer.MAX_VALUE, 0};
        for (int n : none) {
            due.is("run " + n, x.run(n), 0);
        }
        due.is("tick", x.tick(), 0);
        due.is("run 1", x.run(1), 1);
        due.is("run 1000", x.run(1000), 1000);
        due.is("tick", x.tick(), 1001);
        x.poke(0, Code.set(1, 1));
        due.is("up to the FAULT, that counts", x.run(9), 2);
        due.is("none while HALTED", x.run(9), 0);
        due.is("tick", x.tick(), 1003);
    }

    private static void sums(Due due) {
        due.is("1", after(Code.set(5, 9)).register(5), 9);
        due.is("1, least", after(Code.set(5, -32768)).register(5), -32768);
        due.is("1, greatest", after(Code.set(5, 32767)).register(5), 32767);
        due.is("2", after(Code.addNumber(5, 1, -9)).register(5), -2);
        due.is("2 wraps", after(Code.addNumber(5, 4, 1)).register(5), Integer.MIN_VALUE);
        due.is("3", after(Code.word(3, 5, 1, 2, 99)).register(5), 4);
        due.is("3 wraps", after(Code.word(3, 5, 4, 1, 0)).register(5), Integer.MIN_VALUE + 6);
        due.is("4", after(Code.word(4, 5, 1, 2, 99)).register(5), 10);
        due.is("4 the other way", after(Code.word(4, 5, 2, 1, 0)).register(5), -10);
        due.is("4 wraps", after(Code.word(4, 5, 4, 2, 0)).register(5), Integer.MIN_VALUE + 2);
        due.is("5", after(Code.word(5, 5, 1, 2, 99)).register(5), -21);
        due.is("5 wraps", after(Code.word(5, 5, 4, 4, 0)).register(5), 1);
        due.is("6", after(Code.word(6, 5, 1, 3, 99)).register(5), 7 ^ 100);
        for (int op = 1; op <= 6; op++) {
            EnclaveWarden x = after(Code.word(op, 5, 1, 2, 9));
            due.is("pc behind " + op, x.pc(), 1);
            due.no("halted by " + op, x.halted());
            due.is("b stays", x.register(1), 7);
            due.is("c stays", x.register(2), -3);
        }
        due.is("ra is rb too", after(Code.word(5, 1, 1, 1, 0)).register(1), 49);
    }

    private static void fieldsOfTheWord(Due due) {
        for (int a = 1; a < 8; a++) {
            EnclaveWarden x = after(Code.set(a, 50 + a));
            due.is("a = " + a, x.register(a), 50 + a);
        }
        for (int b = 0; b < 8; b++) {
            for (int c = 0; c < 8; c += 7) {
                EnclaveWarden x = new EnclaveWarden(1);
                for (int k = 1; k < 8; k++) {
                    x.give(k, 1 << 4 * k);
                }
                x.poke(0, Code.word(3, 7, b, c, 0));
                x.run(1);
                due.is("b, c", x.register(7), (b == 0 ? 0 : 1 << 4 * b) + (c == 0 ? 0 : 1 << 4 * c));
            }
        }
        due.is("bits 13 to 15 count for nothing", after(Code.set(5, 9) | 7 << 13).register(5), 9);
        due.is("b and c count for nothing in 1", after(Code.word(1, 5, 1, 2, 9)).register(5), 9);
        due.is("c counts for nothing in 2", after(Code.word(2, 5, 1, 3, 9)).register(5), 16);
        due.is("c counts for nothing in 7", after(Code.word(7, 5, 1, 3, -7)).register(5), Code.word(7, 5, 1, 3, -7));
        due.is("c counts for nothing in 9", after(Code.word(9, 1, 1, 3, 9)).pc(), 10);
        due.is("a, b and c count for nothing in 11", after(Code.word(11, 5, 1, 3, 99)).register(1), EnclaveWarden.NONE);
    }

    private static void registerZero(Due due) {
        EnclaveWarden x = after(Code.set(0, 9));
        due.is("r0 stays 0", x.register(0), 0);
        due.is("pc", x.pc(), 1);
        Code.poke(x, 1, Code.word(3, 0, 1, 3, 0), Code.addNumber(5, 0, 6), Code.read(0, 0, 0), Code.write(0, 0, 99));
        x.poke(99, 5);
        due.is("steps", x.run(4), 4);
        due.is("r0 stays 0", x.register(0), 0);
        due.is("r0 counts 0", x.register(5), 6);
        due.is("r0 is written as 0", x.peek(99), 0);
        due.is("a word that was read stays", x.peek(0), Code.set(0, 9));
    }

    private static void readAndWrite(Due due) {
        EnclaveWarden x = new EnclaveWarden(1);
        x.give(1, 60);
        x.give(2, -77);
        x.poke(55, 1234);
        Code.poke(x, 0, Code.read(3, 1, -5), Code.write(2, 1, 4), Code.read(4, 1, 4), Code.write(4, 0, 127));
        due.is("steps", x.run(4), 4);
        due.is("7", x.register(3), 1234);
        due.is("8", x.peek(64), -77);
        due.is("7 after 8", x.register(4), -77);
        due.is("8 at 127", x.peek(127), -77);
        due.is("pc", x.pc(), 4);
        EnclaveWarden y = after(Code.write(1, 1, 50));
        due.is("8 with a register that is the place too", y.peek(57), 7);
        due.is("is no branch", y.pc(), 1);
        x.poke(4, Code.write(5, 0, 5));
        x.give(5, Code.set(6, 66));
        x.run(2);
        due.is("a written word is an instruction", x.register(6), 66);
    }

    private static void placesOfTheSystem(Due due) {
        int[] places = {128, 144, 255, 256, -1, Integer.MIN_VALUE, Integer.MAX_VALUE};
        int[] ops = {7, 8};
        for (int op : ops) {
            for (int p : places) {
                EnclaveWarden x = new EnclaveWarden(1);
                Code.sealed(x, 9, 42);
                x.poke(16, Code.word(op, 3, 1, 0, 0));
                x.give(1, p);
                x.give(3, 8);
                x.boot(16);
                due.is("a FAULT is a step", x.run(3), 1);
                due.yes("halted", x.halted());
                due.is("pc", x.pc(), 16);
                due.is("r1 is not told", x.register(1), p);
                due.is("r3 stays", x.register(3), 8);
                due.is("the word stays", x.bare(144), 42);
                due.is("no EXIT", x.exit(0), 0);
            }
        }
        EnclaveWarden x = new EnclaveWarden(1);
        x.give(1, Integer.MAX_VALUE);
        x.give(2, Integer.MIN_VALUE);
        Code.poke(x, 0, Code.write(1, 1, 1), 0);
        due.is("a place past the greatest int", x.run(2), 1);
        due.yes("is none", x.halted());
        Code.sealed(x, 8, 1);
        x.call(Code.SHARE, 0, 3, 0);
        x.poke(48, Code.read(4, 0, 63));
        x.poke(63, 98);
        x.boot(48);
        due.is("a SHARED region runs", x.run(1), 1);
        due.is("a SHARED word is read", x.register(4), 98);
    }

    private static void branches(Due due) {
        due.is("9, equal to itself", after(Code.ifEqual(1, 1, 30)).pc(), 31);
        due.is("9, not equal", after(Code.ifEqual(1, 2, 30)).pc(), 1);
        due.is("9, less", after(Code.ifEqual(2, 1, 30)).pc(), 1);
        due.is("9, back", after(Code.ifEqual(0, 0, -9)).pc(), -8);
        due.is("9, greatest", after(Code.ifEqual(0, 0, 32767)).pc(), 32768);
        due.is("9, least", after(Code.ifEqual(0, 0, -32768)).pc(), -32767);
        due.is("10, less", after(Code.ifLess(2, 1, 30)).pc(), 31);
        due.is("10, equal", after(Code.ifLess(1, 1, 30)).pc(), 1);
        due.is("10, greater", after(Code.ifLess(1, 2, 30)).pc(), 1);
        due.is("10, not by the difference", after(Code.ifLess(2, 4, 30)).pc(), 31);
        due.is("10, less than r0", after(Code.ifLess(2, 0, 30)).pc(), 31);
        EnclaveWarden x = after(Code.ifEqual(0, 0, 299));
        due.no("a branch to nowhere is no FAULT yet", x.halted());
        due.is("the next step is", x.run(5), 1);
        due.is("pc there", x.pc(), 300);
        EnclaveWarden y = new EnclaveWarden(1);
        for (int r = 8; r < 16; r++) {
            y.call(Code.CLAIM, r, 0, 0);
        }
        y.poke(255, Code.set(1, 1));
        y.boot(255);
        due.is("past the last address", y.run(5), 2);
        due.is("pc does not come around", y.pc(), 256);
    }

    private static void noInstructions(Due due) {
        int[] ops = {0, 12, 13, 14, 15};
        for (int op : ops) {
            EnclaveWarden x = after(Code.word(op, 1, 2, 3, 4));
            due.yes("halted by " + op, x.halted());
            due.is("pc", x.pc(), 0);
            due.is("tick", x.tick(), 1);
            due.is("r1", x.register(1), 7);
            due.is("r2", x.register(2), -3);
        }
    }

    private static void callsOfTheSystem(Due due) {
        EnclaveWarden x = new EnclaveWarden(1);
        Code.poke(x, 0, Code.call(Code.CREATE), Code.call(99), Code.call(Code.EXIT), Code.call(-1), Code.call(Code.LOAD));
        x.give(1, 12);
        x.give(2, 4);
        x.give(3, 5);
        x.run(1);
        due.is("the answer", x.register(1), 0);
        due.is("B stays", x.register(2), 4);
        due.is("C stays", x.register(3), 5);
        due.is("pc", x.pc(), 1);
        due.is("done", x.region(15), 2);
        for (int k = 0; k < 3; k++) {
            x.give(1, 0);
            x.run(1);
            due.is("no such call", x.register(1), EnclaveWarden.NONE);
            due.is("pc", x.pc(), k + 2);
        }
        due.is("no EXIT", x.exit(0), 0);
        x.give(1, 0);
        x.give(2, 13);
        x.give(3, 0);
        x.run(1);
        due.is("LOAD", x.register(1), 0);
        due.is("its first word", x.bare(208), Code.call(Code.CREATE));
        x.poke(5, Code.call(Code.ENTER));
        x.give(1, 2);
        x.run(1);
        due.is("a refused ENTER is answered", x.register(1), EnclaveWarden.BAD);
        due.is("pc behind it", x.pc(), 6);
        x.poke(6, Code.call(Code.YIELD));
        x.poke(7, Code.set(5, 5));
        x.give(1, 0);
        x.run(1);
        due.is("YIELD of the ground under its feet", x.register(1), 0);
        due.is("then there is nothing to run", x.run(4), 1);
        due.is("pc", x.pc(), 7);
    }

    private static void placesOfAnEnclave(Due due) {
        EnclaveWarden x = new EnclaveWarden(1);
        Code.sealed(x, 9, 42);
        x.call(Code.SHARE, 0, 5, 0);
        Code.poke(x, 112, Code.read(2, 1, 0), Code.addNumber(2, 2, 1), Code.write(2, 1, 0), Code.addNumber(1, 2, 0), Code.call(Code.EXIT));
        x.call(Code.CREATE, 10, 2, 0);
        x.call(Code.LOAD, 1, 10, 7);
        x.call(Code.THREAD, 1, 160, 0);
        x.call(Code.SEAL, 1, 0, 0);
        x.call(Code.SHARE, 1, 6, 0);
        int[] its = {175, 176, 191, 96, 111};
        for (int p : its) {
            int before = x.bare(p);
            x.call(Code.ENTER, 1, 0, p);
            due.is("steps", x.run(5), 5);
            due.is("kind at " + p, x.exit(2), 1);
            due.is("value at " + p, x.exit(3), before + 1);
            due.is("bare at " + p, x.bare(p), before + 1);
        }
        int[] others = {0, 95, 80, 112, 144, 159, 192, 255, 256, -1, Integer.MAX_VALUE, Integer.MIN_VALUE};
        for (int p : others) {
            int before = x.bare(p);
            x.call(Code.ENTER, 1, 0, p);
            due.is("a FAULT is a step", x.run(1), 1);
            due.is("kind at " + p, x.exit(2), 3);
            due.is("running", x.running(), -1);
            due.is("bare at " + p, x.bare(p), before);
        }
    }

    private static void faultsOfAnEnclave(Due due) {
        int[] ops = {0, 12, 13, 14, 15, 8, 9};
        for (int op : ops) {
            EnclaveWarden x = new EnclaveWarden(1);
            Code.sealed(x, 8, Code.word(op, 0, 0, 0, 20), 0);
            x.give(1, 5);
            x.give(2, 6);
            x.boot(33);
            x.call(Code.ENTER, 0, 0, 4);
            due.is("steps of " + op, x.run(op == 9 ? 2 : 1), op == 9 ? 2 : 1);
            due.is("kind", x.exit(2), op == 8 || op == 9 ? 3 : 4);
            due.is("value", x.exit(3), 0);
            due.is("READY", x.thread(0, 0), 1);
            due.is("forgotten", x.kept(0, 0, 8), 0);
            due.is("r1", x.register(1), op == 8 || op == 9 ? 3 : 4);
            due.is("r2", x.register(2), 0);
            due.is("pc", x.pc(), 33);
            due.no("halted", x.halted());
            due.is("SEALED still", x.enclave(0), 2);
            due.is("ENTER again", x.call(Code.ENTER, 0, 0, 4), 0);
        }
    }
}

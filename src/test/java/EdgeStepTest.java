/** The sentences of the document's terms that name an edge, from MEMORY to MIX and MAC, each with a test of its own. */
public final class EdgeStepTest {
    private static final int MIN = Integer.MIN_VALUE;
    private static final int MAX = Integer.MAX_VALUE;
    private static final int[] NO_ADDRESSES = {-1, -16, 256, 271, 65536, -65536, MIN, MAX};
    private static final int[] REGISTERS = {7, -3, 100, MAX, MIN, -1, 12345};
    private static final int[] ENDS_OF_I = {-32768, -1, 0, 1, 32767};

    public static void main(String[] args) {
        Due due = new Due();
        addresses(due);
        regionOfAnAddress(due);
        firstKinds(due);
        firstEnclaves(due);
        blocks(due);
        orderOfThreads(due);
        onlyOneRuns(due);
        registerZero(due);
        firstRegisters(due);
        placesOfTheSystem(due);
        placesOfAnEnclave(due);
        noPlaces(due);
        firstNotHalted(due);
        everyStepCounts(due);
        multiplesOfThePeriod(due);
        interruptIsTheWholeStep(due);
        placeOfTheInstruction(due);
        fieldsOfAWord(due);
        signOfI(due);
        pcGoesOn(due);
        wrapping(due);
        exclusiveOr(due);
        sumsThatArePlaces(due);
        readIntoNothing(due);
        equal(due);
        less(due);
        branchPlaces(due);
        callArguments(due);
        noInstructions(due);
        faultDoesNothing(due);
        faultOfTheSystem(due);
        faultOfAThread(due);
        systemAfterLeaving(due);
        haltedAfterLeaving(due);
        whatAnExitTells(due);
        mixWraps(due);
        macOfEdges(due);
        due.end();
    }

    private static void addresses(Due due) {
        due.sentence("MEMORY", "256 words (ints) at the ADDRESSES 0 .. 255, all 0 at first");
        EnclaveWarden x = new EnclaveWarden(1);
        for (int p = 0; p < 256; p++) {
            due.is("bare " + p, x.bare(p), 0);
        }
        x.call(Code.CLAIM, 15, 0, 0);
        int[] ends = {0, 255};
        int[] words = {MIN, MAX};
        for (int k = 0; k < 2; k++) {
            due.yes("poke " + ends[k], x.poke(ends[k], words[k]));
        }
        for (int k = 0; k < 2; k++) {
            due.is("peek " + ends[k], x.peek(ends[k]), words[k]);
        }
        due.no("poke 256", x.poke(256, 1));
        due.no("poke -1", x.poke(-1, 1));
    }

    private static void regionOfAnAddress(Due due) {
        due.sentence("MEMORY", "in 16 REGIONS of 16: address p lies in region p / 16");
        for (int r = 8; r < 16; r++) {
            EnclaveWarden x = new EnclaveWarden(1);
            x.call(Code.CLAIM, r, 0, 0);
            for (int p = 128; p < 256; p++) {
                due.is("poke " + p + " with region " + r + " OWN", x.poke(p, 1) ? 1 : 0, p >= 16 * r && p < 16 * r + 16 ? 1 : 0);
            }
        }
    }

    private static void firstKinds(Due due) {
        due.sentence("MEMORY", "at first the regions 0 .. 7 are OWN and 8 .. 15 are FREE");
        EnclaveWarden x = new EnclaveWarden(1);
        for (int r = 0; r < 16; r++) {
            due.is("region " + r, x.region(r), r <= 7 ? 1 : 0);
        }
        due.yes("poke 127", x.poke(127, 1));
        due.no("poke 128", x.poke(128, 1));
    }

    private static void firstEnclaves(Due due) {
        due.sentence("ENCLAVES", "each is ABSENT (all are, at first)");
        EnclaveWarden x = new EnclaveWarden(1);
        for (int e = 0; e < 3; e++) {
            due.is("enclave " + e, x.enclave(e), 0);
            due.is("STOP of " + e, x.call(Code.STOP, e, 0, 0), EnclaveWarden.STATE);
        }
    }

    private static void blocks(Due due) {
        due.sentence("ENCLAVES", "a BLOCK of 1, 2 or 4 private regions that lie one after the other");
        int[] sizes = {1, 2, 4};
        for (int size : sizes) {
            for (int first = 8; first < 16; first += size) {
                EnclaveWarden x = new EnclaveWarden(1);
                due.is("CREATE", x.call(Code.CREATE, first, size, 0), 0);
                for (int r = 0; r < 16; r++) {
                    int kind = r >= first && r < first + size ? 2 : r < 8 ? 1 : 0;
                    due.is("region " + r + " with a block of " + size + " at " + first, x.region(r), kind);
                }
            }
        }
    }

    private static void orderOfThreads(Due due) {
        due.sentence("ENCLAVES", "at most two THREADS, 0 and 1 in the order in which they were added");
        EnclaveWarden x = new EnclaveWarden(1);
        x.call(Code.CREATE, 8, 1, 0);
        due.is("the first", x.call(Code.THREAD, 0, 143, 0), 0);
        due.is("the second", x.call(Code.THREAD, 0, 128, 0), 1);
        due.is("a third", x.call(Code.THREAD, 0, 130, 0), EnclaveWarden.FULL);
        x.call(Code.SEAL, 0, 0, 0);
        x.call(Code.ENTER, 0, 0, 0);
        due.is("entry of thread 0", x.kept(0, 0, 8), 143);
        x.run(1);
        x.call(Code.ENTER, 0, 1, 0);
        due.is("entry of thread 1", x.kept(0, 1, 8), 128);
    }

    private static void onlyOneRuns(Due due) {
        due.sentence("WHO RUNS", "that thread alone is RUNNING");
        EnclaveWarden x = Twins.machine(Scene::full);
        for (int e = 0; e < 3; e++) {
            due.yes("none while the system runs", x.thread(e, 0) != 2 && x.thread(e, 1) != 2);
        }
        x.call(Code.ENTER, 0, 1, 0);
        int[][] states = {{3, 2}, {1, 1}, {3, 1}};
        for (int e = 0; e < 3; e++) {
            due.is("thread 0 of " + e, x.thread(e, 0), states[e][0]);
            due.is("thread 1 of " + e, x.thread(e, 1), states[e][1]);
        }
    }

    private static void registerZero(Due due) {
        due.sentence("WHO RUNS", "r0 is always 0: what is put there is lost");
        int[] words = {Code.set(0, 9), Code.addNumber(0, 1, 9), Code.word(3, 0, 1, 3, 0), Code.word(4, 0, 1, 3, 0),
            Code.word(5, 0, 1, 3, 0), Code.word(6, 0, 1, 3, 0), Code.read(0, 0, 96)};
        for (boolean enclave : Side.BOTH) {
            for (int word : words) {
                Side s = new Side(enclave, REGISTERS, word, Code.addNumber(6, 0, 5));
                s.x.run(2);
                due.is(s.name() + "r0 after op " + (word & 15), s.register(0), 0);
                due.is(s.name() + "r0 + 5 after op " + (word & 15), s.register(6), 5);
            }
        }
        EnclaveWarden x = new EnclaveWarden(1);
        due.no("give 0", x.give(0, 5));
        due.is("register 0", x.register(0), 0);
    }

    private static void firstRegisters(Due due) {
        due.sentence("WHO RUNS", "those of the system are 0 at first");
        EnclaveWarden x = new EnclaveWarden(MIN);
        for (int k = 0; k < 8; k++) {
            due.is("register " + k, x.register(k), 0);
        }
        due.is("pc", x.pc(), 0);
    }

    private static void placesOfTheSystem(Due due) {
        due.sentence("WHO RUNS", "The system MAY USE the addresses of all OWN and all SHARED regions");
        int[] may = {0, 15, 64, 79, 80, 95, 96, 111, 112, 127};
        int[] mayNot = {128, 143, 144, 159, 160, 175, 176, 191, 240, 255};
        for (int p : may) {
            mayUse(due, false, p);
        }
        for (int p : mayNot) {
            mayNotUse(due, false, p);
        }
    }

    private static void placesOfAnEnclave(Due due) {
        due.sentence("WHO RUNS", "an enclave those of its block and of the regions that are SHARED with it");
        int[] may = {96, 111, 144, 159};
        int[] mayNot = {0, 15, 64, 79, 80, 95, 112, 127, 160, 175, 176, 191, 240, 255};
        for (int p : may) {
            mayUse(due, true, p);
        }
        for (int p : mayNot) {
            mayNotUse(due, true, p);
        }
    }

    private static void noPlaces(Due due) {
        due.sentence("WHO RUNS", "nobody may use any other number as an address");
        for (boolean enclave : Side.BOTH) {
            for (int p : NO_ADDRESSES) {
                mayNotUse(due, enclave, p);
            }
        }
    }

    private static void mayUse(Due due, boolean enclave, int p) {
        Side s = new Side(enclave, new int[] {p, 52, 0, 0, 0, 0, 0}, Code.read(5, 1, 0), Code.write(2, 1, 0));
        due.is(s.name() + "steps at " + p, s.x.run(2), 2);
        due.yes(s.name() + "runs on at " + p, s.runsOn());
        due.is(s.name() + "read at " + p, s.register(5), Side.FILL);
        due.is(s.name() + "written at " + p, s.x.bare(p), 52);
        Side f = branchingTo(enclave, p);
        f.x.run(1);
        due.is(f.name() + "an instruction at " + p, f.register(4), 4);
    }

    private static void mayNotUse(Due due, boolean enclave, int p) {
        int[] words = {Code.read(5, 1, 0), Code.write(2, 1, 0)};
        for (int word : words) {
            Side s = new Side(enclave, new int[] {p, 52, 0, 0, 0, 0, 0}, word);
            int before = s.x.bare(p);
            due.is(s.name() + "steps at " + p, s.x.run(1), 1);
            s.faulted(due, "op " + (word & 15) + " at " + p, 3);
            due.is(s.name() + "the word at " + p, s.x.bare(p), before);
        }
        if (p >= -32000 && p <= 32000) {
            Side f = branchingTo(enclave, p);
            f.x.run(1);
            f.faulted(due, "an instruction at " + p, 3);
        }
    }

    /** A machine whose next step is at address p. */
    private static Side branchingTo(boolean enclave, int p) {
        Side s = new Side(enclave, new int[7], Code.ifEqual(0, 0, p - 1 - (enclave ? 135 : 16)));
        s.x.run(1);
        return s;
    }

    private static void firstNotHalted(Due due) {
        due.sentence("WHO RUNS", "The system can be HALTED (at first it is not)");
        EnclaveWarden x = new EnclaveWarden(1);
        due.no("halted", x.halted());
        due.is("run", x.run(2), 1);
        due.yes("halted", x.halted());
    }

    private static void everyStepCounts(Due due) {
        due.sentence("A STEP", "TICK, the number of steps so far, grows by 1");
        int[] words = {Code.set(1, 1), Code.read(1, 0, -1), 0, Code.call(99), Code.ifEqual(0, 0, -1), Code.call(Code.EXIT)};
        for (boolean enclave : Side.BOTH) {
            for (int word : words) {
                Side s = new Side(enclave, REGISTERS, word);
                s.x.run(1);
                due.is(s.name() + "tick after " + word, s.x.tick(), s.tick + 1);
            }
        }
        Side s = new Side(true, REGISTERS, 0);
        s.x.period(1);
        s.x.run(1);
        due.is("tick after an interrupt", s.x.tick(), s.tick + 1);
    }

    private static void multiplesOfThePeriod(Due due) {
        due.sentence("A STEP", "Is it the turn of an enclave then, PERIOD above 0 and TICK (grown) a multiple of PERIOD, then its thread is interrupted");
        // The thread has made seven steps: the next one is the eighth.
        int[] interrupting = {1, 2, 4, 8};
        int[] others = {3, 5, 6, 7, 9, 16, MAX, 0, -1, -2, -4, -8, MIN};
        for (int n : interrupting) {
            due.is("PERIOD " + n, kindOfTheEighthStep(n), 2);
        }
        for (int n : others) {
            due.is("PERIOD " + n, kindOfTheEighthStep(n), 0);
        }
        for (int n : interrupting) {
            Side s = new Side(false, REGISTERS, Code.set(1, 1), Code.set(1, 2));
            s.x.period(n);
            due.is("the system's steps", s.x.run(2), 2);
            due.is("the system is not interrupted", s.x.exit(0), 0);
        }
    }

    private static int kindOfTheEighthStep(int period) {
        Side s = new Side(true, REGISTERS, Code.set(1, 1));
        s.x.period(period);
        s.x.run(1);
        return s.x.exit(2);
    }

    private static void interruptIsTheWholeStep(Due due) {
        due.sentence("A STEP", "it becomes SAVED with its registers and PC, and is LEFT with kind 2 and value 0; that is the whole step");
        int[] words = {Code.set(1, 1), 0, Code.call(Code.EXIT), Code.read(1, 0, -1), Code.write(1, 0, 100)};
        for (int word : words) {
            Side s = new Side(true, REGISTERS, word);
            s.x.period(8);
            due.is("steps", s.x.run(1), 1);
            due.is("SAVED", s.x.thread(0, 0), 3);
            due.is("its pc", s.pc(), s.place);
            for (int k = 1; k < 8; k++) {
                due.is("its r" + k, s.register(k), REGISTERS[k - 1]);
            }
            due.is("the word that was not written", s.x.bare(100), REGISTERS[3]);
            due.is("kind", s.x.exit(2), 2);
            due.is("value", s.x.exit(3), 0);
            due.is("who runs", s.x.running(), -1);
        }
    }

    private static void placeOfTheInstruction(Due due) {
        due.sentence("A STEP", "FAULT 3 if who runs may not use PC");
        for (int p : NO_ADDRESSES) {
            Side s = new Side(false, REGISTERS, 0);
            s.x.boot(p);
            due.is("steps at " + p, s.x.run(2), 1);
            due.yes("halted at " + p, s.x.halted());
            due.is("pc", s.x.pc(), p);
        }
        EnclaveWarden x = new EnclaveWarden(1);
        x.call(Code.CLAIM, 15, 0, 0);
        x.poke(255, Code.set(2, 2));
        x.boot(255);
        due.is("steps from the last address on", x.run(5), 2);
        due.is("the PC does not come around", x.pc(), 256);
        Code.sealed(x, 14, 0, 0, 0, 0, 0, 0, 0, 0, 0, 0, 0, 0, 0, 0, 0, Code.set(2, 2));
        Code.poke(x, 240, Code.set(2, 2));
        x.call(Code.CREATE, 13, 1, 0);
        x.call(Code.LOAD, 1, 13, 7);
        x.call(Code.THREAD, 1, 223, 0);
        x.call(Code.SEAL, 1, 0, 0);
        x.call(Code.ENTER, 1, 0, 0);
        due.is("steps past the end of its block", x.run(5), 2);
        due.is("kind, before another's block", x.exit(2), 3);
    }

    private static void fieldsOfAWord(Due due) {
        due.sentence("A STEP", "op = w & 15, a = w >> 4 & 7, b = w >> 7 & 7, c = w >> 10 & 7");
        int[] powers = {1 << 4, 1 << 8, 1 << 12, 1 << 16, 1 << 20, 1 << 24, 1 << 28};
        for (boolean enclave : Side.BOTH) {
            for (int k = 0; k < 512; k++) {
                int a = k & 7;
                int b = k >> 3 & 7;
                int c = k >> 6;
                Side s = new Side(enclave, powers, Code.word(3, a, b, c, -1) | k << 13 & 0xe000);
                s.x.run(1);
                int sum = (b == 0 ? 0 : powers[b - 1]) + (c == 0 ? 0 : powers[c - 1]);
                due.is(s.name() + "r" + a + " = r" + b + " + r" + c, s.register(a), a == 0 ? 0 : sum);
            }
        }
    }

    private static void signOfI(Due due) {
        due.sentence("A STEP", "i = w >> 16 (-32768 .. 32767)");
        for (boolean enclave : Side.BOTH) {
            for (int i : ENDS_OF_I) {
                Side s = new Side(enclave, REGISTERS, Code.set(2, i), Code.addNumber(3, 1, i));
                s.x.run(2);
                due.is(s.name() + "1", s.register(2), i);
                due.is(s.name() + "2", s.register(3), 7 + i);
            }
        }
    }

    private static void pcGoesOn(Due due) {
        due.sentence("A STEP", "PC becomes PC + 1, but for a branch that is taken");
        int[] words = {Code.set(1, 1), Code.addNumber(1, 1, 1), Code.word(3, 1, 2, 3, 9), Code.word(4, 1, 2, 3, 9),
            Code.word(5, 1, 2, 3, 9), Code.word(6, 1, 2, 3, 9), Code.read(1, 0, 96), Code.write(1, 0, 100),
            Code.ifEqual(1, 2, 9), Code.ifLess(1, 2, 9), Code.call(99)};
        for (boolean enclave : Side.BOTH) {
            for (int word : words) {
                Side s = new Side(enclave, REGISTERS, word);
                s.x.run(1);
                due.is(s.name() + "pc after op " + (word & 15), s.pc(), s.place + 1);
            }
            Side s = new Side(enclave, REGISTERS, Code.ifEqual(1, 1, 9));
            s.x.run(1);
            due.is(s.name() + "pc after a branch", s.pc(), s.place + 10);
        }
    }

    private static void wrapping(Due due) {
        due.sentence("A STEP", "all sums, differences and products wrap");
        for (boolean enclave : Side.BOTH) {
            result(due, enclave, "MAX + 1 by 2", Code.addNumber(1, 4, 1), MIN);
            result(due, enclave, "MIN - 1 by 2", Code.addNumber(1, 5, -1), MAX);
            result(due, enclave, "MAX + MAX", Code.word(3, 1, 4, 4, 0), -2);
            result(due, enclave, "MIN + MIN", Code.word(3, 1, 5, 5, 0), 0);
            result(due, enclave, "MIN + -1", Code.word(3, 1, 5, 6, 0), MAX);
            result(due, enclave, "MIN - MAX", Code.word(4, 1, 5, 4, 0), 1);
            result(due, enclave, "MAX - -1", Code.word(4, 1, 4, 6, 0), MIN);
            result(due, enclave, "0 - MIN", Code.word(4, 1, 0, 5, 0), MIN);
            result(due, enclave, "MAX * MAX", Code.word(5, 1, 4, 4, 0), 1);
            result(due, enclave, "MIN * MIN", Code.word(5, 1, 5, 5, 0), 0);
            result(due, enclave, "MIN * -1", Code.word(5, 1, 5, 6, 0), MIN);
            result(due, enclave, "MAX * 12345", Code.word(5, 1, 4, 7, 0), MAX - 12344);
        }
    }

    private static void exclusiveOr(Due due) {
        due.sentence("A STEP", "6 ra = rb ^ rc");
        for (boolean enclave : Side.BOTH) {
            result(due, enclave, "MIN ^ MAX", Code.word(6, 1, 5, 4, 0), -1);
            result(due, enclave, "-1 ^ MAX", Code.word(6, 1, 6, 4, 0), MIN);
            result(due, enclave, "-1 ^ -1", Code.word(6, 1, 6, 6, 0), 0);
            result(due, enclave, "7 ^ 100", Code.word(6, 1, 1, 3, 0), 99);
        }
    }

    private static void result(Due due, boolean enclave, String what, int word, int want) {
        Side s = new Side(enclave, REGISTERS, word);
        s.x.run(1);
        due.is(s.name() + what, s.register(1), want);
    }

    private static void sumsThatArePlaces(Due due) {
        due.sentence("A STEP", "7 ra = the word at rb + i     8 the word at rb + i becomes ra (7, 8: FAULT 3 if who runs may not use that address)");
        for (boolean enclave : Side.BOTH) {
            for (int i : ENDS_OF_I) {
                Side s = new Side(enclave, new int[] {111 - i, 52, 0, 0, 0, 0, 0}, Code.read(5, 1, i), Code.write(2, 1, i));
                s.x.run(2);
                due.is(s.name() + "read with " + i, s.register(5), Side.FILL);
                due.is(s.name() + "written with " + i, s.x.bare(111), 52);
            }
            int[][] nowhere = {{MAX, 1}, {MIN, -1}, {256, 0}, {255, 1}, {-1, 0}, {0, -1}, {MAX, 32767}, {MIN, -32768}};
            for (int[] n : nowhere) {
                Side r = new Side(enclave, new int[] {n[0], 52, 0, 0, 0, 0, 0}, Code.read(5, 1, n[1]));
                r.x.run(1);
                r.faulted(due, "read at " + n[0] + " + " + n[1], 3);
                Side w = new Side(enclave, new int[] {n[0], 52, 0, 0, 0, 0, 0}, Code.write(2, 1, n[1]));
                w.x.run(1);
                w.faulted(due, "write at " + n[0] + " + " + n[1], 3);
            }
        }
    }

    private static void readIntoNothing(Due due) {
        due.sentence("A STEP", "7, 8: FAULT 3 if who runs may not use that address");
        for (boolean enclave : Side.BOTH) {
            Side s = new Side(enclave, REGISTERS, Code.read(0, 0, 256));
            s.x.run(1);
            s.faulted(due, "a word for r0", 3);
            Side y = new Side(enclave, REGISTERS, Code.write(0, 0, 176));
            y.x.run(1);
            y.faulted(due, "r0 into a FREE region", 3);
        }
    }

    private static void equal(Due due) {
        due.sentence("A STEP", "9 branch if ra = rb");
        int[][] taken = {{0, 0}, {1, 1}, {5, 5}, {4, 4}};
        int[][] not = {{0, 6}, {6, 0}, {4, 5}, {5, 4}, {0, 5}, {4, 6}, {1, 2}, {2, 1}};
        for (boolean enclave : Side.BOTH) {
            branches(due, enclave, 9, taken, true);
            branches(due, enclave, 9, not, false);
        }
    }

    private static void less(Due due) {
        due.sentence("A STEP", "10 branch if ra < rb");
        int[][] taken = {{5, 4}, {6, 0}, {5, 0}, {2, 1}, {0, 1}, {0, 4}, {6, 4}, {5, 6}};
        int[][] not = {{4, 5}, {0, 6}, {0, 5}, {1, 2}, {0, 0}, {1, 1}, {4, 4}, {5, 5}, {4, 6}, {6, 5}};
        for (boolean enclave : Side.BOTH) {
            branches(due, enclave, 10, taken, true);
            branches(due, enclave, 10, not, false);
        }
    }

    private static void branches(Due due, boolean enclave, int op, int[][] pairs, boolean taken) {
        for (int[] p : pairs) {
            Side s = new Side(enclave, REGISTERS, Code.word(op, p[0], p[1], 0, 5));
            s.x.run(1);
            due.is(s.name() + "pc after " + op + " of r" + p[0] + ", r" + p[1], s.pc(), s.place + (taken ? 6 : 1));
        }
    }

    private static void branchPlaces(Due due) {
        due.sentence("A STEP", "PC becomes the branch's own address + 1 + i");
        for (boolean enclave : Side.BOTH) {
            for (int i : ENDS_OF_I) {
                Side s = new Side(enclave, REGISTERS, Code.ifEqual(0, 0, i));
                s.x.run(1);
                due.is(s.name() + "9 with " + i, s.pc(), s.place + 1 + i);
                due.yes(s.name() + "a branch is no FAULT", s.runsOn());
                Side y = new Side(enclave, REGISTERS, Code.ifLess(2, 1, i));
                y.x.run(1);
                due.is(y.name() + "10 with " + i, y.pc(), y.place + 1 + i);
            }
        }
    }

    private static void callArguments(Due due) {
        due.sentence("A STEP", "11 CALL number i with A = r1, B = r2, C = r3 as they are; its answer becomes r1");
        Side s = new Side(false, new int[] {12, 4, 99, 5, 6, 7, 8}, Code.word(11, 4, 5, 6, Code.CREATE));
        s.x.run(1);
        due.is("CREATE of four regions from 12 on", s.register(1), 2);
        due.is("its last region", s.x.region(15), 4);
        int mac = Code.mac(99, 5, 6);
        Side e = new Side(true, new int[] {5, 6, mac, 1, 2, 3, 4}, Code.word(11, 4, 5, 6, Code.CHECK));
        e.x.run(1);
        due.is("CHECK", e.register(1), 1);
        Side[] sides = {s, e};
        int[][] others = {{4, 99, 5, 6, 7, 8}, {6, mac, 1, 2, 3, 4}};
        for (int k = 0; k < 2; k++) {
            for (int r = 2; r < 8; r++) {
                due.is(sides[k].name() + "r" + r + " stays", sides[k].register(r), others[k][r - 2]);
            }
        }
    }

    private static void noInstructions(Due due) {
        due.sentence("A STEP", "0, 12, 13, 14, 15 FAULT 4");
        for (boolean enclave : Side.BOTH) {
            for (int op = 1; op < 12; op++) {
                Side s = new Side(enclave, REGISTERS, Code.word(op, 1, 0, 0, 100));
                s.x.run(1);
                due.yes(s.name() + "op " + op + " is an instruction", s.runsOn());
            }
            int[] ops = {0, 12, 13, 14, 15};
            for (int op : ops) {
                Side s = new Side(enclave, REGISTERS, Code.word(op, 1, 0, 0, 100));
                due.is(s.name() + "steps", s.x.run(1), 1);
                s.faulted(due, "op " + op, 4);
            }
            int[] withOtherBits = {-1, -16, 0xfff0, MIN, 0x7ffffffc};
            for (int word : withOtherBits) {
                Side s = new Side(enclave, REGISTERS, word);
                s.x.run(1);
                s.faulted(due, "the word " + word, 4);
            }
        }
    }

    private static void faultDoesNothing(Due due) {
        due.sentence("FAULT", "the instruction does nothing");
        int[] words = {Code.read(1, 0, 256), Code.write(1, 0, 176), Code.write(1, 0, -1), Code.word(0, 1, 2, 3, 4),
            Code.word(12, 1, 2, 3, 4), Code.word(15, 1, 2, 3, 4)};
        for (int word : words) {
            Side s = new Side(false, REGISTERS, word);
            s.x.run(1);
            for (int k = 1; k < 8; k++) {
                due.is("the system's r" + k, s.register(k), REGISTERS[k - 1]);
            }
            due.is("a FREE word", s.x.bare(176), 0);
        }
        Side e = new Side(true, REGISTERS, Code.write(1, 0, 0));
        e.x.run(1);
        due.is("an OWN word", e.x.bare(0), Side.FILL);
    }

    private static void faultOfTheSystem(Due due) {
        due.sentence("FAULT", "If the system runs, it is HALTED, with PC still where the instruction is.");
        int[] words = {0, 15, Code.read(1, 0, 256), Code.write(1, 0, 128)};
        for (int word : words) {
            Side s = new Side(false, REGISTERS, Code.set(1, 1), word);
            due.is("steps", s.x.run(9), 2);
            due.yes("halted", s.x.halted());
            due.is("pc", s.x.pc(), s.place + 1);
            due.is("no EXIT", s.x.exit(0), 0);
            due.is("who runs", s.x.running(), -1);
            due.is("r1 is told nothing", s.x.register(1), 1);
        }
    }

    private static void faultOfAThread(Due due) {
        due.sentence("FAULT", "If a thread runs, it becomes READY (its registers and PC are forgotten) and is LEFT with kind k and value 0.");
        int[] words = {0, 15, Code.read(1, 0, 256), Code.write(1, 0, 0)};
        int[] kinds = {4, 4, 3, 3};
        for (int w = 0; w < words.length; w++) {
            Side s = new Side(true, REGISTERS, words[w]);
            s.x.run(1);
            due.is("READY", s.x.thread(0, 0), 1);
            for (int k = 0; k < 9; k++) {
                due.is("kept " + k, s.x.kept(0, 0, k), 0);
            }
            due.is("kind", s.x.register(1), kinds[w]);
            due.is("value", s.x.register(2), 0);
            s.x.call(Code.ENTER, 0, 0, 0);
            due.is("begins anew at its entry", s.pc(), 128);
            due.is("begins anew without registers", s.register(7), 0);
        }
    }

    private static void systemAfterLeaving(Due due) {
        due.sentence("LEFT", "the system runs again, with the registers and the PC that it had when it entered or resumed the thread, but r1 = k and r2 = v");
        int[] words = {Code.call(Code.EXIT), Code.set(1, 1), Code.read(1, 0, 256), 0};
        int[] values = {REGISTERS[0], 0, 0, 0};
        for (int kind = 1; kind < 5; kind++) {
            Side s = new Side(true, REGISTERS, words[kind - 1]);
            s.x.period(kind == 2 ? 1 : 0);
            due.is("steps", s.x.run(1), 1);
            due.is("who runs", s.x.running(), -1);
            due.is("r1", s.x.register(1), kind);
            due.is("r2", s.x.register(2), values[kind - 1]);
            for (int k = 3; k < 8; k++) {
                due.is("r" + k, s.x.register(k), -k);
            }
            due.is("pc", s.x.pc(), 16);
        }
        int[] ends = {0, -1, MIN, MAX};
        for (int v : ends) {
            Side s = new Side(true, new int[] {v, 1, 1, 1, 1, 1, 1}, Code.call(Code.EXIT));
            s.x.run(1);
            due.is("r2", s.x.register(2), v);
            due.is("value", s.x.exit(3), v);
        }
    }

    private static void haltedAfterLeaving(Due due) {
        due.sentence("LEFT", "(HALTED or not as before)");
        int[] words = {Code.call(Code.EXIT), Code.set(1, 1), Code.read(1, 0, 256), 0};
        for (int kind = 1; kind < 5; kind++) {
            Side s = new Side(true, REGISTERS, words[kind - 1]);
            s.x.period(kind == 2 ? 1 : 0);
            s.x.run(1);
            due.no("not HALTED by kind " + kind, s.x.halted());
            EnclaveWarden x = new EnclaveWarden(1);
            Code.sealed(x, 8, words[kind - 1]);
            x.run(1);
            x.call(Code.ENTER, 0, 0, 0);
            x.period(kind == 2 ? 1 : 0);
            x.run(1);
            due.is("kind", x.exit(2), kind);
            due.yes("still HALTED after kind " + kind, x.halted());
        }
    }

    private static void whatAnExitTells(Due due) {
        due.sentence("LEFT", "This is an EXIT; TICK and the enclave belong to it too.");
        EnclaveWarden x = new EnclaveWarden(1);
        Code.sealed(x, 8, Code.call(Code.EXIT));
        Code.sealed(x, 9, Code.ifEqual(0, 0, -1));
        Code.sealed(x, 10, 0);
        x.period(4);
        int[][] exits = {{0, 1, 1}, {2, 4, 2}, {1, 2, 4}};
        for (int k = 0; k < 3; k++) {
            x.call(Code.ENTER, exits[k][0], 0, 0);
            for (int s = 0; s < 4 && x.running() != -1; s++) {
                x.run(1);
            }
            due.is("the number", x.exit(0), k + 1);
            due.is("the enclave", x.exit(1), exits[k][0]);
            due.is("the kind", x.exit(2), exits[k][1]);
            due.is("TICK", x.exit(4), exits[k][2]);
        }
    }

    // The numbers in the next two were worked out apart from all code of the project.
    private static void mixWraps(Due due) {
        due.sentence("MIX and MAC", "t ^ (t >>> 15), where t = (h ^ w) * 1390208809 (wraps)");
        EnclaveWarden x = new EnclaveWarden(1);
        x.call(Code.CREATE, 8, 1, 0);
        due.is("1, 8 and 1 added to 0", x.measure(0), 2061740340);
        Code.poke(x, 16, MIN, MAX, -1, 0, 1, -2, 2, 32767, -32768, 65536, 1390208809, -1390208809, 2061740340, 7, MIN + 1, MAX - 1);
        x.call(Code.LOAD, 0, 8, 1);
        due.is("words of all kinds added", x.measure(0), -735841652);
        int[][] mixes = {{0, 0, 0}, {5, 5, 0}, {1, 0, 1390166672}, {-1, 0, -1390263663}, {MAX, 0, 757285521},
            {MIN, 0, -2147418112}, {MAX, MIN, -1390263663}, {0, 2, -1514633951}, {0, -2, 1514571042}};
        for (int[] m : mixes) {
            due.is("the tests' own MIX(" + m[0] + ", " + m[1] + ")", Code.mix(m[0], m[1]), m[2]);
        }
    }

    private static void macOfEdges(Due due) {
        due.sentence("MIX and MAC", "MAC(m, d) = MIX(MIX(MIX(SECRET, m), d), SECRET)");
        int[][] macs = {{0, 0, 0, 0}, {0, 0, 1, 1494625085}, {0, MIN, MAX, 1596169181}, {1, 0, 0, -1524540708},
            {1, 1, 0, 1390166672}, {1, MAX, MIN, -1366056094}, {-1, -1, -1, 1643731821}, {-1, 0, 1, 2059822955},
            {MIN, 0, 0, 1364634510}, {MIN, MIN, MAX, 844293276}, {MAX, 1, 0, 1782895921}, {MAX, MAX, MIN, -973368541}};
        for (int[] m : macs) {
            due.yes("vouch with the secret " + m[0], new EnclaveWarden(m[0]).vouch(m[1], m[2], m[3]));
        }
    }
}

import java.util.function.Consumer;

/** The sentences of promises 1 to 21 that name an edge, each with a test of its own, in the order of the document. */
public final class EdgePromiseTest {
    private static final int MIN = Integer.MIN_VALUE;
    private static final int MAX = Integer.MAX_VALUE;
    private static final int NONE = EnclaveWarden.NONE;
    private static final int[] ENDS = {0, 1, -1, MIN, MAX};
    private static final int[] NO_ADDRESSES = {-1, -16, 256, 271, 65536, MIN, MAX};
    private static final int[] PRIVATE_OR_FREE = {128, 143, 144, 159, 160, 175, 176, 191, 192, 240, 255};
    /** Every call of the system, most of them heard in Scene.full, and one that is none. */
    private static final int[][] CALLS = {{Code.CREATE, 11, 1, 0}, {Code.LOAD, 1, 10, 7}, {Code.THREAD, 1, 160, 0}, {Code.SEAL, 1, 0, 0},
        {Code.SHARE, 2, 4, 0}, {Code.ENTER, 0, 1, 5}, {Code.RESUME, 0, 0, 0}, {Code.STOP, 0, 0, 0}, {Code.DESTROY, 1, 0, 0},
        {Code.CLAIM, 11, 0, 0}, {Code.YIELD, 4, 0, 0}, {Code.EXIT, 0, 0, 0}};

    public static void main(String[] args) {
        Due due = new Due();
        new1(due);
        secret1(due);
        poke2(due);
        pokeWhileAnEnclaveRuns2(due);
        pokeRefused2(due);
        peek3(due);
        bare4(due);
        bareOutside4(due);
        give5(due);
        giveRefused5(due);
        registerWhileAnEnclaveRuns6(due);
        registerOutside6(due);
        pcWhileAnEnclaveRuns7(due);
        pcBehindTheCall7(due);
        boot8(due);
        bootRefused8(due);
        halted9(due);
        callWhileHalted10(due);
        callBusy10(due);
        callIsNoStep10(due);
        callEnters10(due);
        runNumbers11(due);
        runWhileHalted11(due);
        runHowMany11(due);
        period12(due);
        periodNone12(due);
        tick13(due);
        running14(due);
        runningAfterLeaving14(due);
        region15(due);
        enclave16(due);
        thread17(due);
        threadNone17(due);
        kept18(due);
        keptNone18(due);
        measure19(due);
        vouch20(due);
        exit21(due);
        exitOther21(due);
        lastCall(due);
        due.end();
    }

    /** A thread that goes around in two instructions, counting in r2. */
    private static EnclaveWarden counting() {
        EnclaveWarden x = new EnclaveWarden(1);
        Code.sealed(x, 8, Code.addNumber(2, 2, 1), Code.ifEqual(0, 0, -2));
        return x;
    }

    private static void new1(Due due) {
        due.sentence("Promise 1", "PERIOD and TICK are 0, and there was no EXIT");
        EnclaveWarden x = counting();
        due.is("tick", x.tick(), 0);
        for (int k = 0; k < 5; k++) {
            due.is("exit " + k, x.exit(k), 0);
        }
        x.call(Code.ENTER, 0, 0, 0);
        due.is("steps without an interrupt", x.run(1000), 1000);
        due.is("exit 0", x.exit(0), 0);
    }

    private static void secret1(Due due) {
        due.sentence("Promise 1", "The machine as it is at first, with this SECRET");
        for (int secret : ENDS) {
            EnclaveWarden x = new EnclaveWarden(secret);
            due.yes("the secret " + secret, x.vouch(2, 3, Code.mac(secret, 2, 3)));
            due.no("another secret", x.vouch(2, 3, Code.mac(secret ^ 1, 2, 3)));
            due.same("all else", State.of(x), State.of(new EnclaveWarden(77)));
        }
    }

    private static void poke2(Due due) {
        due.sentence("Promise 2", "The word at address p becomes w");
        int[] places = {0, 15, 16, 47, 63, 64, 127};
        for (int p : places) {
            for (int w : ENDS) {
                EnclaveWarden x = Twins.machine(Scene::full);
                due.yes("poke " + p, x.poke(p, w));
                due.is("bare " + p, x.bare(p), w);
            }
        }
    }

    private static void pokeWhileAnEnclaveRuns2(Due due) {
        due.sentence("Promise 2", "also while an enclave runs: true");
        EnclaveWarden x = Twins.machine(Scene::busy);
        int[] places = {0, 16, 47, 63, 127};
        for (int p : places) {
            due.yes("poke " + p, x.poke(p, 5));
            due.is("bare " + p, x.bare(p), 5);
        }
        due.is("the enclave still runs", x.running(), 1);
    }

    private static void pokeRefused2(Due due) {
        due.sentence("Promise 2", "false, changing nothing, if the system may not use p");
        for (int p : NO_ADDRESSES) {
            pokeIsRefused(due, Scene::full, p);
            pokeIsRefused(due, Scene::busy, p);
        }
        for (int p : PRIVATE_OR_FREE) {
            pokeIsRefused(due, Scene::full, p);
            pokeIsRefused(due, Scene::busy, p);
        }
    }

    private static void pokeIsRefused(Due due, Consumer<EnclaveWarden> scene, int p) {
        due.no("poke " + p, Twins.machine(scene).poke(p, 12321));
        Twins.unchanged(due, "poke " + p, scene, x -> x.poke(p, 12321));
    }

    private static void peek3(Due due) {
        due.sentence("Promise 3", "0 if the system may not use p");
        EnclaveWarden x = Twins.machine(Scene::full);
        for (int p : NO_ADDRESSES) {
            due.is("peek " + p, x.peek(p), 0);
        }
        for (int p : PRIVATE_OR_FREE) {
            due.is("peek " + p, x.peek(p), 0);
        }
        due.yes("a word that is not told is there", x.bare(128) != 0 && x.bare(159) != 0 && x.bare(175) != 0 && x.bare(255) != 0);
        int[] places = {15, 16, 47, 48, 127};
        int[] words = {91, 92, 93, 94, Code.call(Code.EXIT)};
        for (int k = 0; k < places.length; k++) {
            due.is("peek " + places[k], x.peek(places[k]), words[k]);
        }
    }

    private static void bare4(Due due) {
        due.sentence("Promise 4", "the word at address p, whosever the region is");
        EnclaveWarden x = Twins.machine(Scene::busy);
        x.poke(0, 90);
        int[] places = {0, 15, 16, 47, 48, 127, 143, 159, 175, 176, 255};
        int exit = Code.call(Code.EXIT);
        int[] words = {90, 91, 92, 93, 94, exit, exit, exit, exit, 0, exit};
        for (int k = 0; k < places.length; k++) {
            due.is("bare " + places[k], x.bare(places[k]), words[k]);
        }
    }

    private static void bareOutside4(Due due) {
        due.sentence("Promise 4", "0 if p is not 0 .. 255");
        EnclaveWarden x = new EnclaveWarden(1);
        for (int r = 8; r < 16; r++) {
            x.call(Code.CLAIM, r, 0, 0);
        }
        for (int p = 0; p < 256; p++) {
            x.poke(p, 5);
        }
        for (int p : NO_ADDRESSES) {
            due.is("bare " + p, x.bare(p), 0);
        }
        due.is("bare 0", x.bare(0), 5);
        due.is("bare 255", x.bare(255), 5);
    }

    private static void give5(Due due) {
        due.sentence("Promise 5", "Register k of the system becomes v: true");
        for (int v : ENDS) {
            for (int k = 1; k < 8; k++) {
                EnclaveWarden x = Twins.machine(Scene::halted);
                due.yes("give " + k + " while HALTED", x.give(k, v));
                for (int j = 1; j < 8; j++) {
                    due.is("register " + j, x.register(j), j == k ? v : 1000 + j);
                }
            }
        }
    }

    private static void giveRefused5(Due due) {
        due.sentence("Promise 5", "false, changing nothing, if k is not 1 .. 7 or an enclave runs");
        int[] none = {0, -1, -7, 8, 9, MIN, MAX};
        for (int k : none) {
            due.no("give " + k, Twins.machine(Scene::full).give(k, 5));
            Twins.unchanged(due, "give " + k, Scene::full, x -> x.give(k, 5));
        }
        for (int k = -1; k < 10; k++) {
            int r = k;
            due.no("give " + r + " while an enclave runs", Twins.machine(Scene::busy).give(r, 5));
            Twins.unchanged(due, "give " + r + " while an enclave runs", Scene::busy, x -> x.give(r, 5));
        }
    }

    private static void registerWhileAnEnclaveRuns6(Due due) {
        due.sentence("Promise 6", "(while an enclave runs: as it was when the system entered or resumed the thread)");
        Side s = new Side(true, new int[] {1, 2, 3, 4, 5, 6, 7}, Code.set(3, 9));
        s.x.run(1);
        for (int k = 0; k < 8; k++) {
            due.is("register " + k, s.x.register(k), -k);
        }
        s.x.period(1);
        s.x.run(1);
        s.x.give(3, 33);
        s.x.call(Code.RESUME, 0, 0, 0);
        int[] resumed = {0, 2, 0, 33, -4, -5, -6, -7};
        for (int k = 0; k < 8; k++) {
            due.is("register " + k + " after RESUME", s.x.register(k), resumed[k]);
        }
    }

    private static void registerOutside6(Due due) {
        due.sentence("Promise 6", "0 if k is not 0 .. 7");
        EnclaveWarden x = Twins.machine(Scene::full);
        int[] none = {-1, -7, 8, 9, MIN, MAX};
        for (int k : none) {
            due.is("register " + k, x.register(k), 0);
        }
        for (int k = 0; k < 8; k++) {
            due.is("register " + k, x.register(k), k == 0 ? 0 : 1000 + k);
        }
    }

    private static void pcWhileAnEnclaveRuns7(Due due) {
        due.sentence("Promise 7", "while an enclave runs: as it was when the system entered or resumed the thread");
        for (int p : ENDS) {
            EnclaveWarden x = counting();
            x.boot(p);
            x.call(Code.ENTER, 0, 0, 0);
            x.run(3);
            due.is("after ENTER", x.pc(), p);
            x.period(1);
            x.run(1);
            due.is("LEFT", x.pc(), p);
            x.boot(-99);
            x.call(Code.RESUME, 0, 0, 0);
            due.is("after RESUME", x.pc(), -99);
        }
    }

    private static void pcBehindTheCall7(Due due) {
        due.sentence("Promise 7", "if by the instruction CALL, the place behind it");
        EnclaveWarden x = counting();
        Code.poke(x, 126, Code.call(Code.ENTER), Code.call(Code.RESUME));
        x.boot(126);
        x.period(3);
        x.run(1);
        due.is("after ENTER", x.pc(), 127);
        x.run(2);
        due.is("LEFT", x.running(), -1);
        x.give(1, 0);
        x.run(1);
        due.is("who runs", x.running(), 0);
        due.is("after RESUME", x.pc(), 128);
    }

    private static void boot8(Due due) {
        due.sentence("Promise 8", "PC of the system becomes address (any int), and it is no longer HALTED: true");
        int[] places = {0, 127, 128, 255, 256, -1, MIN, MAX};
        for (int p : places) {
            EnclaveWarden x = Twins.machine(Scene::halted);
            due.yes("boot " + p, x.boot(p));
            due.is("pc", x.pc(), p);
            due.no("halted", x.halted());
            due.is("a step can be made again", x.run(1), 1);
            EnclaveWarden y = Twins.machine(Scene::full);
            due.yes("boot " + p + " while not HALTED", y.boot(p));
            due.is("pc", y.pc(), p);
        }
    }

    private static void bootRefused8(Due due) {
        due.sentence("Promise 8", "false, changing nothing, if an enclave runs");
        Consumer<EnclaveWarden> halted = Scene::halted;
        Consumer<EnclaveWarden> busyAndHalted = halted.andThen(x -> x.call(Code.ENTER, 0, 1, 0));
        int[] places = {0, 70, -1, MIN, MAX};
        for (int p : places) {
            due.no("boot " + p, Twins.machine(Scene::busy).boot(p));
            due.no("boot " + p + " while HALTED", Twins.machine(busyAndHalted).boot(p));
            Twins.unchanged(due, "boot " + p, Scene::busy, x -> x.boot(p));
            Twins.unchanged(due, "boot " + p + " while HALTED", busyAndHalted, x -> x.boot(p));
        }
    }

    private static void halted9(Due due) {
        due.sentence("Promise 9", "Whether the system is HALTED (it can be while an enclave runs)");
        EnclaveWarden x = Twins.machine(Scene::halted);
        due.yes("halted", x.halted());
        x.call(Code.ENTER, 0, 1, 0);
        due.is("an enclave runs", x.running(), 1);
        due.yes("halted while it runs", x.halted());
        x.run(1);
        due.is("LEFT", x.running(), -1);
        due.yes("halted still", x.halted());
        EnclaveWarden y = Twins.machine(Scene::busy);
        due.no("not halted while it runs", y.halted());
    }

    private static void callWhileHalted10(Due due) {
        due.sentence("Promise 10", "The system makes call f with A = a, B = b, C = c, also if it is HALTED: the answer");
        for (int[] c : CALLS) {
            EnclaveWarden x = Twins.machine(Scene::halted);
            EnclaveWarden y = Twins.machine(Scene::full);
            due.is("call " + c[0], x.call(c[0], c[1], c[2], c[3]), y.call(c[0], c[1], c[2], c[3]));
            for (int r = 0; r < 16; r++) {
                due.is("region " + r + " after call " + c[0], x.region(r), y.region(r));
            }
            for (int e = 0; e < 3; e++) {
                due.is("enclave " + e + " after call " + c[0], x.enclave(e), y.enclave(e));
                due.is("measure " + e + " after call " + c[0], x.measure(e), y.measure(e));
            }
            due.is("who runs", x.running(), y.running());
            due.yes("halted still", x.halted());
        }
    }

    private static void callBusy10(Due due) {
        due.sentence("Promise 10", "BUSY, changing nothing, if an enclave runs");
        for (int[] c : CALLS) {
            callIsBusy(due, c);
        }
        int[][] refusedOtherwise = {{Code.CREATE, 16, 3, 0}, {Code.SEAL, 3, 0, 0}, {17, 0, 0, 0}, {0, 0, 0, 0}, {-1, 0, 0, 0},
            {MIN, MIN, MIN, MIN}, {MAX, MAX, MAX, MAX}};
        for (int[] c : refusedOtherwise) {
            callIsBusy(due, c);
        }
    }

    private static void callIsBusy(Due due, int[] c) {
        due.is("call " + c[0], Twins.machine(Scene::busy).call(c[0], c[1], c[2], c[3]), EnclaveWarden.BUSY);
        Twins.unchanged(due, "call " + c[0], Scene::busy, x -> x.call(c[0], c[1], c[2], c[3]));
    }

    private static void callIsNoStep10(Due due) {
        due.sentence("Promise 10", "It is no step: the system's registers and PC and TICK stay.");
        for (int[] c : CALLS) {
            EnclaveWarden x = Twins.machine(Scene::full);
            x.call(c[0], c[1], c[2], c[3]);
            for (int k = 1; k < 8; k++) {
                due.is("register " + k + " after call " + c[0], x.register(k), 1000 + k);
            }
            due.is("pc after call " + c[0], x.pc(), 70);
            due.is("tick after call " + c[0], x.tick(), 2 * Scene.PERIOD);
        }
    }

    private static void callEnters10(Due due) {
        due.sentence("Promise 10", "A call that enters or resumes a thread answers 0, and the thread's steps are made by run().");
        EnclaveWarden x = Twins.machine(Scene::full);
        due.is("RESUME", x.call(Code.RESUME, 0, 0, 0), 0);
        due.is("no step yet", x.kept(0, 0, 8), 128);
        due.is("run", x.run(1), 1);
        due.is("a step of the thread", x.kept(0, 0, 8), 129);
        due.is("its count", x.kept(0, 0, 2), 3);
        EnclaveWarden y = Twins.machine(Scene::full);
        due.is("ENTER", y.call(Code.ENTER, 0, 1, 6), 0);
        due.is("no step yet", y.exit(0), 2);
        due.is("run", y.run(1), 1);
        due.is("a step of the thread", y.exit(3), 6);
    }

    private static void runNumbers11(Due due) {
        due.sentence("Promise 11", "Makes n steps (none if n is not 0 .. 1000)");
        int[] numbers = {0, 1, 999, 1000};
        int[] none = {-1, -1000, 1001, 2000, 65536, MIN, MAX};
        for (boolean enclave : Side.BOTH) {
            for (int n : numbers) {
                EnclaveWarden x = looping(enclave);
                due.is("run " + n, x.run(n), n);
                due.is("tick", x.tick(), n);
            }
            for (int n : none) {
                EnclaveWarden x = looping(enclave);
                due.is("run " + n, x.run(n), 0);
                due.is("tick", x.tick(), 0);
            }
        }
        for (int n : none) {
            Twins.unchanged(due, "run " + n, Scene::busy, x -> x.run(n));
            Twins.unchanged(due, "run " + n, Scene::full, x -> x.run(n));
        }
        Twins.unchanged(due, "run 0", Scene::busy, x -> x.run(0));
    }

    private static EnclaveWarden looping(boolean enclave) {
        EnclaveWarden x = counting();
        x.poke(0, Code.ifEqual(0, 0, -1));
        if (enclave) {
            x.call(Code.ENTER, 0, 0, 0);
        }
        return x;
    }

    private static void runWhileHalted11(Due due) {
        due.sentence("Promise 11", "it ends before a step that the system would make while it is HALTED");
        EnclaveWarden x = Twins.machine(Scene::halted);
        due.is("run", x.run(1000), 0);
        due.is("tick", x.tick(), 2 * Scene.PERIOD + 1);
        Twins.unchanged(due, "run while HALTED", Scene::halted, y -> y.run(1000));
        x.call(Code.ENTER, 0, 1, 0);
        due.is("a thread's steps are made", x.run(1000), 1);
        x.call(Code.RESUME, 0, 0, 0);
        due.is("up to the interrupt", x.run(1000), 3);
        due.is("tick", x.tick(), 3 * Scene.PERIOD);
        x.boot(70);
        due.is("the step that HALTs is one", x.run(1000), 1);
        due.is("and the last", x.run(1000), 0);
    }

    private static void runHowMany11(Due due) {
        due.sentence("Promise 11", "How many were made.");
        EnclaveWarden x = counting();
        Code.poke(x, 0, Code.call(Code.ENTER), Code.set(5, 5));
        x.period(4);
        due.is("a call, two steps, an interrupt, an instruction, a FAULT", x.run(1000), 6);
        due.is("tick", x.tick(), 6);
        x.boot(1);
        due.is("as many as were asked for", x.run(1), 1);
        due.is("then the FAULT", x.run(1), 1);
        due.is("then none", x.run(1), 0);
    }

    private static void period12(Due due) {
        due.sentence("Promise 12", "PERIOD becomes n");
        for (int n = 1; n < 8; n++) {
            EnclaveWarden x = counting();
            x.call(Code.ENTER, 0, 0, 0);
            x.period(n);
            x.run(n - 1);
            due.is("not before its time", x.exit(0), 0);
            x.run(1);
            due.is("in its time", x.exit(4), n);
        }
        EnclaveWarden x = counting();
        x.call(Code.ENTER, 0, 0, 0);
        x.period(2);
        x.period(MAX);
        due.is("the latest one", x.run(1000), 1000);
        due.is("is the one", x.exit(0), 0);
        x.period(1001);
        x.run(1);
        due.is("it counts from the first step on", x.exit(4), 1001);
        Twins.unchanged(due, "that PERIOD again", Scene::busy, y -> y.period(Scene.PERIOD));
    }

    private static void periodNone12(Due due) {
        due.sentence("Promise 12", "0 or less is without interrupts");
        int[] none = {0, -1, -2, -1000, MIN};
        for (int n : none) {
            EnclaveWarden x = counting();
            x.period(1);
            x.period(n);
            x.call(Code.ENTER, 0, 0, 0);
            due.is("steps with " + n, x.run(1000), 1000);
            due.is("EXITs with " + n, x.exit(0), 0);
            x.period(7);
            x.run(1);
            due.is("with 7 again", x.exit(4), 1001 % 7 == 0 ? 1001 : 0);
        }
    }

    private static void tick13(Due due) {
        due.sentence("Promise 13", "TICK.");
        EnclaveWarden x = counting();
        due.is("at first", x.tick(), 0);
        x.poke(0, Code.ifEqual(0, 0, -1));
        x.run(1000);
        x.run(1001);
        x.run(-1);
        due.is("after a thousand", x.tick(), 1000);
        x.call(Code.ENTER, 0, 0, 0);
        x.run(5);
        x.period(1);
        x.run(1);
        due.is("after a thread and an interrupt", x.tick(), 1006);
        x.boot(-1);
        x.run(1000);
        due.is("after a FAULT", x.tick(), 1007);
        due.is("asking is no step", x.tick(), 1007);
    }

    private static void running14(Due due) {
        due.sentence("Promise 14", "-1 the system, or 2 * e + t for thread t of enclave e");
        for (int e = 0; e < 3; e++) {
            for (int t = 0; t < 2; t++) {
                EnclaveWarden x = new EnclaveWarden(1);
                for (int k = 0; k < 3; k++) {
                    x.call(Code.CREATE, 8 + k, 1, 0);
                    x.call(Code.THREAD, k, 128 + 16 * k, 0);
                    x.call(Code.THREAD, k, 128 + 16 * k, 0);
                    x.call(Code.SEAL, k, 0, 0);
                }
                due.is("the system", x.running(), -1);
                x.call(Code.ENTER, e, t, 0);
                due.is("a thread", x.running(), 2 * e + t);
                x.period(1);
                x.run(1);
                due.is("the system", x.running(), -1);
                x.call(Code.RESUME, e, t, 0);
                due.is("a thread again", x.running(), 2 * e + t);
            }
        }
    }

    private static void runningAfterLeaving14(Due due) {
        due.sentence("Promise 14", "Who runs");
        int[] words = {Code.call(Code.EXIT), Code.set(1, 1), Code.read(1, 0, 256), 0};
        for (int kind = 1; kind < 5; kind++) {
            Side s = new Side(true, new int[7], words[kind - 1]);
            due.is("before", s.x.running(), 0);
            s.x.period(kind == 2 ? 1 : 0);
            s.x.run(1);
            due.is("the kind", s.x.exit(2), kind);
            due.is("after kind " + kind, s.x.running(), -1);
        }
        Side refused = new Side(false, new int[7], Code.call(Code.RESUME));
        refused.x.run(1);
        due.is("after a refused RESUME", refused.x.running(), -1);
        EnclaveWarden halted = Twins.machine(Scene::halted);
        due.is("while HALTED", halted.running(), -1);
    }

    private static void region15(Due due) {
        due.sentence("Promise 15", "0 FREE, 1 OWN, 2 + e PRIVATE to enclave e, 5 + e SHARED with enclave e; NONE if r is not 0 .. 15");
        EnclaveWarden x = Twins.machine(Scene::full);
        x.call(Code.SHARE, 2, 4, 0);
        int[] kinds = {1, 5, 5, 6, 7, 1, 1, 1, 2, 2, 3, 0, 4, 4, 4, 4};
        for (int r = 0; r < 16; r++) {
            due.is("region " + r, x.region(r), kinds[r]);
        }
        int[] none = {-1, -16, 16, 17, MIN, MAX};
        for (int r : none) {
            due.is("region " + r, x.region(r), NONE);
        }
    }

    private static void enclave16(Due due) {
        due.sentence("Promise 16", "0 ABSENT, 1 BUILDING, 2 SEALED, 3 STOPPED; NONE if e is not 0 .. 2");
        EnclaveWarden x = Twins.machine(Scene::full);
        int[] states = {2, 1, 3};
        for (int e = 0; e < 3; e++) {
            due.is("enclave " + e, x.enclave(e), states[e]);
        }
        int[] none = {-1, -3, 3, 4, MIN, MAX};
        for (int e : none) {
            due.is("enclave " + e, x.enclave(e), NONE);
        }
        due.is("ABSENT after DESTROY", Twins.machine(Scene::absent).enclave(1), 0);
        due.is("SEALED while it runs", Twins.machine(Scene::busy).enclave(0), 2);
    }

    private static void thread17(Due due) {
        due.sentence("Promise 17", "1 READY, 2 RUNNING, 3 SAVED");
        EnclaveWarden x = Twins.machine(Scene::busy);
        int[][] states = {{3, 2}, {1, 1}, {3, 1}};
        for (int e = 0; e < 3; e++) {
            for (int t = 0; t < 2; t++) {
                due.is("thread " + e + ", " + t, x.thread(e, t), states[e][t]);
            }
        }
        x.run(1);
        due.is("READY after an EXIT", x.thread(0, 1), 1);
        x.call(Code.RESUME, 0, 0, 0);
        due.is("RUNNING after RESUME", x.thread(0, 0), 2);
    }

    private static void threadNone17(Due due) {
        due.sentence("Promise 17", "0 if there is none such (also if e is not 0 .. 2 or ABSENT, or t is not 0 or 1)");
        EnclaveWarden x = Twins.machine(Scene::full);
        int[] noEnclaves = {-1, 3, 4, MIN, MAX};
        int[] noThreads = {-1, 2, 3, MIN, MAX};
        for (int t = 0; t < 2; t++) {
            for (int e : noEnclaves) {
                due.is("thread " + e + ", " + t, x.thread(e, t), 0);
            }
            due.is("ABSENT from the first on", new EnclaveWarden(1).thread(1, t), 0);
            due.is("ABSENT after DESTROY", Twins.machine(Scene::absent).thread(1, t), 0);
            due.is("none added", Twins.machine(Scene::threadless).thread(1, t), 0);
        }
        for (int t : noThreads) {
            for (int e = 0; e < 3; e++) {
                due.is("thread " + e + ", " + t, x.thread(e, t), 0);
            }
            due.is("thread -1, " + t, x.thread(-1, t), 0);
        }
        due.is("one added, not two", Twins.machine(Scene::single).thread(1, 1), 0);
    }

    private static void kept18(Due due) {
        due.sentence("Promise 18", "register k (0 .. 7), or the PC (k = 8), of thread t of enclave e");
        Side s = new Side(true, new int[] {MIN, MAX, -1, 4, 5, 6, 7}, Code.ifEqual(0, 0, -32768));
        int[] kept = {0, MIN, MAX, -1, 4, 5, 6, 7, s.place};
        for (int k = 0; k < 9; k++) {
            due.is("RUNNING, kept " + k, s.x.kept(0, 0, k), kept[k]);
        }
        s.x.run(1);
        due.is("a PC that is no address", s.x.kept(0, 0, 8), s.place + 1 - 32768);
        s.x.period(1);
        s.x.run(1);
        for (int k = 0; k < 8; k++) {
            due.is("SAVED, kept " + k, s.x.kept(0, 0, k), kept[k]);
        }
        due.is("SAVED, kept 8", s.x.kept(0, 0, 8), s.place + 1 - 32768);
        s.x.call(Code.STOP, 0, 0, 0);
        due.is("STOPPED, kept 2", s.x.kept(0, 0, 2), MAX);
    }

    private static void keptNone18(Due due) {
        due.sentence("Promise 18", "0 if there is none such, it is READY, or k is not 0 .. 8");
        EnclaveWarden x = Twins.machine(Scene::busy);
        int[] noNumbers = {-1, -8, 9, 10, MIN, MAX};
        for (int k : noNumbers) {
            due.is("RUNNING, kept " + k, x.kept(0, 1, k), 0);
            due.is("SAVED, kept " + k, x.kept(0, 0, k), 0);
        }
        int[] noEnclaves = {-1, 3, MIN, MAX};
        int[] noThreads = {-1, 2, MIN, MAX};
        for (int n = 0; n < 4; n++) {
            due.is("of enclave " + noEnclaves[n], x.kept(noEnclaves[n], 0, 8), 0);
            due.is("of thread " + noThreads[n], x.kept(0, noThreads[n], 8), 0);
        }
        for (int k = 0; k < 9; k++) {
            due.is("READY from the first on", x.kept(1, 0, k), 0);
        }
        x.run(1);
        for (int k = 0; k < 9; k++) {
            due.is("READY again", x.kept(0, 1, k), 0);
        }
        x.call(Code.DESTROY, 2, 0, 0);
        for (int k = 0; k < 9; k++) {
            due.is("ABSENT, that had a SAVED thread", x.kept(2, 0, k), 0);
        }
        due.is("no second thread", Twins.machine(Scene::single).kept(1, 1, 8), 0);
    }

    private static void measure19(Due due) {
        due.sentence("Promise 19", "The measure of enclave e; 0 if e is not 0 .. 2 or ABSENT");
        EnclaveWarden x = Twins.machine(Scene::full);
        int[] none = {-1, 3, 4, MIN, MAX};
        for (int e : none) {
            due.is("measure " + e, x.measure(e), 0);
        }
        for (int e = 0; e < 3; e++) {
            due.yes("measure " + e, x.measure(e) != 0);
            due.is("ABSENT from the first on", new EnclaveWarden(1).measure(e), 0);
        }
        int stopped = x.measure(2);
        due.is("BUILDING", Twins.machine(Scene::threadless).measure(1), Code.added(0, 1, 10, 1));
        due.is("ABSENT after DESTROY", Twins.machine(Scene::absent).measure(1), 0);
        due.is("STOPPED still", x.measure(2), stopped);
        x.call(Code.DESTROY, 2, 0, 0);
        due.is("ABSENT after STOP and DESTROY", x.measure(2), 0);
    }

    private static void vouch20(Due due) {
        due.sentence("Promise 20", "whether MAC(m, d) = mac");
        for (int secret : ENDS) {
            EnclaveWarden x = new EnclaveWarden(secret);
            for (int m : ENDS) {
                for (int d : ENDS) {
                    int mac = Code.mac(secret, m, d);
                    due.yes("vouch of " + m + ", " + d, x.vouch(m, d, mac));
                    due.no("of another m", x.vouch(m ^ 2, d, mac));
                    due.no("of another d", x.vouch(m, d ^ 2, mac));
                }
            }
            for (int bit = 0; bit < 32; bit++) {
                due.no("a mac that is off in bit " + bit, x.vouch(5, 6, Code.mac(secret, 5, 6) ^ 1 << bit));
            }
        }
        due.yes("while an enclave runs", Twins.machine(Scene::busy).vouch(5, 6, Code.mac(Scene.SECRET, 5, 6)));
        Twins.unchanged(due, "vouch", Scene::busy, x -> x.vouch(5, 6, 7));
    }

    private static void exit21(Due due) {
        due.sentence("Promise 21", "each 0 if there was none");
        EnclaveWarden x = new EnclaveWarden(1);
        Code.sealed(x, 8, Code.call(Code.EXIT));
        for (int k = 0; k < 5; k++) {
            due.is("exit " + k, x.exit(k), 0);
        }
        x.run(1);
        x.call(Code.EXIT, 5, 5, 5);
        x.call(Code.ENTER, 0, 0, MIN);
        for (int k = 0; k < 5; k++) {
            due.is("exit " + k + ", still none", x.exit(k), 0);
        }
        x.run(1);
        int[] first = {1, 0, 1, MIN, 2};
        for (int k = 0; k < 5; k++) {
            due.is("exit " + k + ", the first one", x.exit(k), first[k]);
        }
    }

    private static void exitOther21(Due due) {
        due.sentence("Promise 21", "0 for any other k");
        EnclaveWarden x = Twins.machine(Scene::full);
        int[] scene = {2, 2, 2, 0, 10};
        for (int k = 0; k < 5; k++) {
            due.is("exit " + k, x.exit(k), scene[k]);
        }
        int[] others = {-1, -4, 5, 6, MIN, MAX};
        for (int k : others) {
            due.is("exit " + k, x.exit(k), 0);
        }
    }

    private static void lastCall(Due due) {
        due.sentence("What it is", "An object is used for at most 512 calls after it has been made");
        EnclaveWarden x = new EnclaveWarden(1);
        x.poke(0, Code.ifEqual(0, 0, -1));
        for (int k = 2; k < 512; k++) {
            due.is("the call " + k, x.run(1000), 1000);
        }
        due.is("the call 512", x.tick(), 510000);
    }
}

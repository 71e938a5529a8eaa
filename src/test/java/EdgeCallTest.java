import java.util.ArrayList;
import java.util.List;
import java.util.function.Consumer;

/** What the calls of the system and of an enclave do at their edges, each sentence with a test of its own. */
public final class EdgeCallTest {
    private static final int MIN = Integer.MIN_VALUE;
    private static final int MAX = Integer.MAX_VALUE;
    private static final int[] ENDS = {0, 1, -1, MIN, MAX};

    public static void main(String[] args) {
        Due due = new Due();
        createdAgain(due);
        loaded(due);
        threadAdded(due);
        sealed(due);
        sharedAgain(due);
        entered(due);
        resumed(due);
        stopped(due);
        destroyed(due);
        destroyedAtTheEnds(due);
        claimed(due);
        yielded(due);
        changesWhileBuilding(due);
        changesWhileRunning(due);
        changesOfRegions(due);
        zeroIsTheAnswer(due);
        argumentsThatAreNotNamed(due);
        enteredByAnInstruction(due);
        enteredFromTheLastWord(due);
        exitOfAnEnclave(due);
        vouchOfAnEnclave(due);
        keyOfAnEnclave(due);
        checkOfAnEnclave(due);
        due.end();
    }

    private static void createdAgain(Due due) {
        due.sentence("CREATE", "The ABSENT enclave with the least number becomes BUILDING, without threads; the regions become its block; to a measure of 0 are added 1, A and B, in this order. The answer is its number.");
        EnclaveWarden x = new EnclaveWarden(1);
        for (int e = 0; e < 3; e++) {
            due.is("CREATE", x.call(Code.CREATE, 8 + 2 * e, 2, 0), e);
            x.call(Code.THREAD, e, 128 + 32 * e, 0);
        }
        x.call(Code.DESTROY, 2, 0, 0);
        x.call(Code.DESTROY, 1, 0, 0);
        due.is("the least of two", x.call(Code.CREATE, 15, 1, 0), 1);
        due.is("BUILDING", x.enclave(1), 1);
        due.is("without threads", x.thread(1, 0), 0);
        due.is("its measure", x.measure(1), Code.added(0, 1, 15, 1));
        due.is("its block", x.region(15), 3);
        due.is("no more than its block", x.region(14), 0);
        due.is("the last one", x.call(Code.CREATE, 10, 2, 0), 2);
        x.call(Code.DESTROY, 0, 0, 0);
        due.is("0 again", x.call(Code.CREATE, 12, 2, 0), 0);
        due.is("its measure", x.measure(0), Code.added(0, 1, 12, 2));
    }

    private static void loaded(Due due) {
        due.sentence("LOAD", "The 16 words of C are copied to B; added are 2, B and the words in the order of their addresses.");
        EnclaveWarden x = new EnclaveWarden(1);
        for (int p = 0; p < 48; p++) {
            x.poke(p, 1000003 * p - 5);
        }
        x.call(Code.CREATE, 12, 4, 0);
        due.is("LOAD", x.call(Code.LOAD, 0, 15, 1), 0);
        int measure = Code.added(0, 1, 12, 4, 2, 15);
        for (int k = 0; k < 16; k++) {
            due.is("a word of B", x.bare(240 + k), 1000003 * (16 + k) - 5);
            due.is("a word before B", x.bare(224 + k), 0);
            due.is("a word of C", x.peek(16 + k), 1000003 * (16 + k) - 5);
            measure = Code.added(measure, 1000003 * (16 + k) - 5);
        }
        due.is("measure", x.measure(0), measure);
        due.is("a second time, with other words", x.call(Code.LOAD, 0, 15, 2), 0);
        due.is("the last word of B", x.bare(255), 1000003 * 47 - 5);
    }

    private static void threadAdded(Due due) {
        due.sentence("THREAD", "A READY thread is added; 3 and B are added to the measure. The answer is the thread's number.");
        EnclaveWarden x = new EnclaveWarden(1);
        x.call(Code.CREATE, 8, 4, 0);
        due.is("the first address of the block", x.call(Code.THREAD, 0, 128, 0), 0);
        due.is("measure", x.measure(0), Code.added(0, 1, 8, 4, 3, 128));
        due.is("no second thread yet", x.thread(0, 1), 0);
        due.is("the last address of the block", x.call(Code.THREAD, 0, 191, 0), 1);
        due.is("measure", x.measure(0), Code.added(0, 1, 8, 4, 3, 128, 3, 191));
        due.is("READY", x.thread(0, 0), 1);
        due.is("READY", x.thread(0, 1), 1);
    }

    private static void sealed(Due due) {
        due.sentence("SEAL", "It is SEALED; 4 is added to the measure.");
        EnclaveWarden x = new EnclaveWarden(1);
        x.call(Code.CREATE, 8, 1, 0);
        x.call(Code.THREAD, 0, 128, 0);
        due.is("one thread is enough", x.call(Code.SEAL, 0, 0, 0), 0);
        due.is("SEALED", x.enclave(0), 2);
        due.is("measure", x.measure(0), Code.added(0, 1, 8, 1, 3, 128, 4));
    }

    private static void sharedAgain(Due due) {
        due.sentence("SHARE", "FULL if two regions are SHARED with A. The region becomes SHARED with A; its words stay, and the measure too.");
        EnclaveWarden x = Twins.machine(Scene::full);
        int measure = x.measure(1);
        x.poke(79, 5);
        due.is("the second with 1", x.call(Code.SHARE, 1, 4, 0), 0);
        due.is("SHARED", x.region(4), 6);
        due.is("its words", x.peek(79), 5);
        due.is("the measure", x.measure(1), measure);
        due.is("a third with 1", x.call(Code.SHARE, 1, 5, 0), EnclaveWarden.FULL);
        due.is("the first with 2, STOPPED", x.call(Code.SHARE, 2, 5, 0), 0);
        x.call(Code.DESTROY, 1, 0, 0);
        x.call(Code.CREATE, 10, 1, 0);
        due.is("after the next CREATE", x.call(Code.SHARE, 1, 4, 0), 0);
        due.is("and the second", x.call(Code.SHARE, 1, 3, 0), 0);
        due.is("and a third", x.call(Code.SHARE, 1, 6, 0), EnclaveWarden.FULL);
    }

    private static void entered(Due due) {
        due.sentence("ENTER", "The thread is RUNNING from its entry on, with r1 = C and the other registers 0.");
        int[] ends = {0, -1, 5, MIN, MAX};
        for (int c : ends) {
            EnclaveWarden x = Twins.machine(Scene::full);
            due.is("ENTER", x.call(Code.ENTER, 0, 1, c), 0);
            due.is("RUNNING", x.thread(0, 1), 2);
            for (int k = 0; k < 8; k++) {
                due.is("r" + k, x.kept(0, 1, k), k == 1 ? c : 0);
            }
            due.is("pc", x.kept(0, 1, 8), 159);
        }
        Side s = new Side(true, new int[] {1, 2, 3, 4, 5, 6, 7}, Code.call(Code.EXIT));
        s.x.run(1);
        s.x.call(Code.ENTER, 0, 0, -9);
        for (int k = 0; k < 8; k++) {
            due.is("a second time, r" + k, s.register(k), k == 1 ? -9 : 0);
        }
        due.is("a second time, pc", s.pc(), 128);
    }

    private static void resumed(Due due) {
        due.sentence("RESUME", "The thread is RUNNING again with its registers and PC.");
        EnclaveWarden x = Twins.machine(Scene::full);
        due.is("RESUME", x.call(Code.RESUME, 0, 0, MAX), 0);
        due.is("RUNNING", x.thread(0, 0), 2);
        int[] kept = {0, 77, 2, 0, 0, 0, 0, 0, 128};
        for (int k = 0; k < 9; k++) {
            due.is("kept " + k, x.kept(0, 0, k), kept[k]);
        }
    }

    private static void stopped(Due due) {
        due.sentence("STOP", "It is STOPPED; its threads stay as they are.");
        EnclaveWarden x = Twins.machine(Scene::full);
        due.is("STOP", x.call(Code.STOP, 0, 0, 0), 0);
        due.is("STOPPED", x.enclave(0), 3);
        due.is("a SAVED thread", x.thread(0, 0), 3);
        due.is("its r1", x.kept(0, 0, 1), 77);
        due.is("its pc", x.kept(0, 0, 8), 128);
        due.is("a READY thread", x.thread(0, 1), 1);
    }

    private static void destroyed(Due due) {
        due.sentence("DESTROY", "The words of its block become 0 and the regions FREE; the regions that are SHARED with it become OWN, their words stay; it is ABSENT.");
        EnclaveWarden x = Twins.machine(Scene::full);
        x.call(Code.SHARE, 2, 7, 0);
        due.is("of a BUILDING one", x.call(Code.DESTROY, 1, 0, 0), 0);
        due.is("of a STOPPED one", x.call(Code.DESTROY, 2, 0, 0), 0);
        for (int p = 160; p < 256; p++) {
            due.is("bare " + p, x.bare(p), 0);
        }
        due.is("a word of the enclave before it", x.bare(159), Code.call(Code.EXIT));
        int[] kinds = {1, 5, 5, 1, 1, 1, 1, 1, 2, 2, 0, 0, 0, 0, 0, 0};
        for (int r = 0; r < 16; r++) {
            due.is("region " + r, x.region(r), kinds[r]);
        }
        due.is("a word that was SHARED with 1", x.peek(48), 94);
        due.is("a word that was SHARED with 2", x.peek(127), Code.call(Code.EXIT));
        for (int e = 1; e < 3; e++) {
            due.is("ABSENT", x.enclave(e), 0);
            due.is("its thread 0", x.thread(e, 0), 0);
            due.is("its thread 1", x.thread(e, 1), 0);
            due.is("what its thread kept", x.kept(e, 0, 8), 0);
            due.is("its measure", x.measure(e), 0);
        }
    }

    private static void destroyedAtTheEnds(Due due) {
        due.sentence("DESTROY", "The words of its block become 0 and the regions FREE; the regions that are SHARED with it become OWN, their words stay");
        int[][] ends = {{0, 15}, {15, 0}};
        for (int[] n : ends) {
            int block = n[0];
            int shared = n[1];
            EnclaveWarden x = new EnclaveWarden(1);
            x.call(Code.YIELD, 0, 0, 0);
            x.call(Code.CLAIM, shared, 0, 0);
            x.call(Code.CREATE, block, 1, 0);
            due.is("SHARE", x.call(Code.SHARE, 0, shared, 0), 0);
            due.is("a second", x.call(Code.SHARE, 0, 1, 0), 0);
            due.is("a third", x.call(Code.SHARE, 0, 2, 0), EnclaveWarden.FULL);
            Code.poke(x, 32, 1, 2, 3, 4, 5, 6, 7, 8, 9, 10, 11, 12, 13, 14, 15, 16);
            x.call(Code.LOAD, 0, block, 2);
            x.poke(16 * shared, 51);
            x.poke(16 * shared + 15, 52);
            due.is("the last word of the block", x.bare(16 * block + 15), 16);
            due.is("DESTROY", x.call(Code.DESTROY, 0, 0, 0), 0);
            for (int p = 16 * block; p < 16 * block + 16; p++) {
                due.is("bare " + p, x.bare(p), 0);
            }
            due.is("the block is FREE", x.region(block), 0);
            due.is("what was SHARED is OWN", x.region(shared), 1);
            due.is("its first word", x.peek(16 * shared), 51);
            due.is("its last word", x.peek(16 * shared + 15), 52);
        }
    }

    private static void claimed(Due due) {
        due.sentence("CLAIM", "It becomes OWN.");
        EnclaveWarden x = Twins.machine(Scene::full);
        due.is("CLAIM", x.call(Code.CLAIM, 11, 0, 0), 0);
        due.is("region 11", x.region(11), 1);
        due.is("region 10", x.region(10), 3);
        due.is("region 12", x.region(12), 4);
    }

    private static void yielded(Due due) {
        due.sentence("YIELD", "Its words become 0 and it is FREE.");
        int[] ends = {0, 7};
        for (int r : ends) {
            EnclaveWarden x = new EnclaveWarden(1);
            for (int p = 0; p < 128; p++) {
                x.poke(p, p + 1);
            }
            due.is("YIELD", x.call(Code.YIELD, r, 0, 0), 0);
            due.is("FREE", x.region(r), 0);
            for (int p = 0; p < 128; p++) {
                due.is("bare " + p, x.bare(p), p / 16 == r ? 0 : p + 1);
            }
        }
    }

    private static void changesWhileBuilding(Due due) {
        due.sentence("CREATE", "the regions become its block");
        Twins.changes(due, "CREATE", Scene::absent, x -> x.call(Code.CREATE, 10, 2, 0),
            List.of("enclave 1", "measure 1", "region 10", "region 11"));
        due.sentence("LOAD", "The 16 words of C are copied to B");
        Twins.changes(due, "LOAD", Scene::threadless, x -> x.call(Code.LOAD, 1, 10, 7), withWords(160, "measure 1"));
        due.sentence("THREAD", "A READY thread is added; 3 and B are added to the measure.");
        Twins.changes(due, "THREAD", Scene::threadless, x -> x.call(Code.THREAD, 1, 175, 0), List.of("measure 1", "thread 1, 0"));
        due.sentence("SEAL", "It is SEALED; 4 is added to the measure.");
        Twins.changes(due, "SEAL", Scene::full, x -> x.call(Code.SEAL, 1, 0, 0), List.of("enclave 1", "measure 1"));
    }

    private static void changesWhileRunning(Due due) {
        due.sentence("ENTER", "The thread is RUNNING from its entry on, with r1 = C and the other registers 0.");
        Twins.changes(due, "ENTER", Scene::full, x -> x.call(Code.ENTER, 0, 1, 9),
            List.of("running", "thread 0, 1", "kept 0, 1, 1", "kept 0, 1, 8"));
        due.sentence("RESUME", "The thread is RUNNING again with its registers and PC.");
        Twins.changes(due, "RESUME", Scene::full, x -> x.call(Code.RESUME, 0, 0, 9), List.of("running", "thread 0, 0"));
        due.sentence("STOP", "It is STOPPED; its threads stay as they are.");
        Twins.changes(due, "STOP", Scene::full, x -> x.call(Code.STOP, 0, 0, 0), List.of("enclave 0"));
        due.sentence("CALLS OF AN ENCLAVE", "16 EXIT: its thread becomes READY (registers and PC are forgotten) and is LEFT with kind 1 and value A; no answer is put anywhere.");
        Twins.changes(due, "EXIT", Scene::busy, x -> x.run(1), List.of("register 1", "register 2", "tick", "running",
            "exit 0", "exit 1", "exit 2", "exit 3", "exit 4", "thread 0, 1", "kept 0, 1, 1", "kept 0, 1, 8"));
    }

    private static void changesOfRegions(Due due) {
        due.sentence("SHARE", "The region becomes SHARED with A; its words stay, and the measure too.");
        Twins.changes(due, "SHARE", Scene::full, x -> x.call(Code.SHARE, 2, 7, 0), List.of("region 7"));
        due.sentence("DESTROY", "it is ABSENT");
        Twins.changes(due, "DESTROY", Scene::full, x -> x.call(Code.DESTROY, 1, 0, 0),
            withWords(160, "enclave 1", "measure 1", "thread 1, 0", "thread 1, 1", "region 3", "region 10"));
        due.sentence("CLAIM", "It becomes OWN.");
        Twins.changes(due, "CLAIM", Scene::full, x -> x.call(Code.CLAIM, 11, 0, 0), List.of("region 11"));
        due.sentence("YIELD", "Its words become 0 and it is FREE.");
        Twins.changes(due, "YIELD", Scene::full, x -> x.call(Code.YIELD, 7, 0, 0), withWords(112, "region 7"));
    }

    /** These names, and those of the sixteen words from address p on. */
    private static List<String> withWords(int p, String... names) {
        List<String> all = new ArrayList<>(List.of(names));
        for (int k = 0; k < 16; k++) {
            all.add("bare " + (p + k));
        }
        return all;
    }

    private static void zeroIsTheAnswer(Due due) {
        due.sentence("CALLS OF THE SYSTEM", "otherwise the answer is 0 where no other one is said");
        int[][] calls = {{Code.LOAD, 1, 10, 7}, {Code.SHARE, 1, 4, 0}, {Code.STOP, 0, 0, 0}, {Code.DESTROY, 2, 0, 0},
            {Code.CLAIM, 11, 0, 0}, {Code.YIELD, 4, 0, 0}, {Code.ENTER, 0, 1, 9}, {Code.RESUME, 0, 0, 9}};
        for (int[] c : calls) {
            due.is("call " + c[0], Twins.machine(Scene::threadless).call(c[0], c[1], c[2], c[3]), 0);
        }
        due.is("SEAL", Twins.machine(Scene::full).call(Code.SEAL, 1, 0, 0), 0);
        int[][] others = {{Code.LOAD, 1, 10, 7}, {Code.SHARE, 1, 4, 0}, {Code.STOP, 0, 0, 0}, {Code.DESTROY, 2, 0, 0}};
        for (int[] c : others) {
            EnclaveWarden x = Twins.machine(Scene::threadless);
            Scene.systemStep(x, Code.call(c[0]), c[1], c[2], c[3]);
            due.is("r1 after call " + c[0], x.register(1), 0);
        }
    }

    private static void argumentsThatAreNotNamed(Due due) {
        due.sentence("CALLS OF THE SYSTEM", "BAD is meant where an argument that is named as an enclave is not 0 .. 2, as a region is not 0 .. 15, as a thread is not 0 or 1, or as an address is not 0 .. 255.");
        int[] any = {-1, 3, 16, 256, MIN, MAX};
        for (int n : any) {
            int[][] twoNamed = {{Code.CREATE, 10, 1}, {Code.RESUME, 0, 0}, {Code.SHARE, 2, 4}};
            for (int[] c : twoNamed) {
                sameWith(due, Scene::absent, c[0], c[1], c[2], 0, c[2], n);
            }
            sameWith(due, Scene::threadless, Code.THREAD, 1, 165, 0, 165, n);
            int[][] oneNamed = {{Code.SEAL, 1}, {Code.STOP, 0}, {Code.DESTROY, 2}, {Code.CLAIM, 11}, {Code.YIELD, 4}};
            for (int[] c : oneNamed) {
                sameWith(due, Scene::full, c[0], c[1], 0, 0, n, n);
            }
        }
    }

    /** The call is heard, and is the same with other numbers where it names no argument. */
    private static void sameWith(Due due, Consumer<EnclaveWarden> scene, int f, int a, int b, int c, int otherB, int otherC) {
        String what = "call " + f + " with B = " + otherB + ", C = " + otherC;
        due.yes(what + " is heard", Twins.machine(scene).call(f, a, otherB, otherC) >= 0);
        Twins.alike(due, what, scene, x -> x.call(f, a, otherB, otherC), x -> x.call(f, a, b, c));
    }

    private static void enteredByAnInstruction(Due due) {
        due.sentence("CALLS OF THE SYSTEM", "When the instruction CALL of the system enters or resumes a thread, no answer is put into r1, and the PC that the system has then is the one behind the instruction.");
        int[][] calls = {{Code.ENTER, 1, 0}, {Code.RESUME, 2, 0}};
        for (int[] c : calls) {
            EnclaveWarden x = new EnclaveWarden(1);
            for (int e = 0; e < 3; e++) {
                Code.sealed(x, 8 + e, Code.ifEqual(0, 0, -1));
            }
            x.call(Code.ENTER, 2, 0, 0);
            x.period(1);
            x.run(1);
            x.period(0);
            Code.poke(x, 64, Code.call(c[0]));
            x.give(1, c[1]);
            x.give(2, c[2]);
            x.boot(64);
            due.is("the step", x.run(1), 1);
            due.is("a thread runs", x.running(), 2 * c[1]);
            due.is("r1 is A still", x.register(1), c[1]);
            due.is("pc", x.pc(), 65);
            due.is("the thread's r1 has no answer", x.kept(c[1], 0, 1), 0);
            x.period(1);
            x.run(1);
            due.is("r1 is the kind", x.register(1), 2);
            due.is("pc, LEFT", x.pc(), 65);
        }
        EnclaveWarden y = new EnclaveWarden(1);
        Scene.systemStep(y, Code.call(Code.ENTER), 0, 0, 0);
        due.is("a refused ENTER has an answer", y.register(1), EnclaveWarden.STATE);
        due.is("pc behind a refused ENTER", y.pc(), 1);
    }

    private static void enteredFromTheLastWord(Due due) {
        due.sentence("CALLS OF THE SYSTEM", "the PC that the system has then is the one behind the instruction");
        EnclaveWarden x = new EnclaveWarden(1);
        Code.sealed(x, 8, Code.call(Code.EXIT));
        x.poke(127, Code.call(Code.ENTER));
        x.boot(127);
        due.is("ENTER, EXIT and a FAULT", x.run(9), 3);
        due.is("the PC is in the enclave's block", x.pc(), 128);
        due.yes("where the system HALTs", x.halted());
        due.is("EXITs", x.exit(0), 1);
    }

    private static void exitOfAnEnclave(Due due) {
        due.sentence("CALLS OF AN ENCLAVE", "16 EXIT: its thread becomes READY (registers and PC are forgotten) and is LEFT with kind 1 and value A; no answer is put anywhere.");
        for (int a : ENDS) {
            Side s = new Side(true, new int[] {a, 2, 3, 4, 5, 6, 7}, Code.call(Code.EXIT));
            due.is("steps", s.x.run(1), 1);
            due.is("READY", s.x.thread(0, 0), 1);
            for (int k = 0; k < 9; k++) {
                due.is("kept " + k, s.x.kept(0, 0, k), 0);
            }
            due.is("kind", s.x.exit(2), 1);
            due.is("value", s.x.exit(3), a);
            due.is("r1", s.x.register(1), 1);
            due.is("r2", s.x.register(2), a);
            due.is("r3", s.x.register(3), -3);
        }
    }

    private static void vouchOfAnEnclave(Due due) {
        due.sentence("CALLS OF AN ENCLAVE", "17 VOUCH: the answer is MAC(its measure, A).");
        for (int a : ENDS) {
            Side s = new Side(true, new int[] {a, 2, 3, 4, 5, 6, 7}, Code.call(Code.VOUCH));
            s.x.run(1);
            due.is("with A = " + a, s.register(1), Code.mac(99, s.x.measure(0), a));
            due.is("pc", s.pc(), s.place + 1);
        }
    }

    private static void keyOfAnEnclave(Due due) {
        due.sentence("CALLS OF AN ENCLAVE", "18 KEY: the answer is MIX(MIX(SECRET, its measure), 18).");
        for (int a : ENDS) {
            Side s = new Side(true, new int[] {a, a, a, 4, 5, 6, 7}, Code.call(Code.KEY));
            s.x.run(1);
            due.is("with A = " + a, s.register(1), Code.mix(Code.mix(99, s.x.measure(0)), 18));
        }
    }

    private static void checkOfAnEnclave(Due due) {
        due.sentence("CALLS OF AN ENCLAVE", "19 CHECK: the answer is 1 if MAC(A, B) = C, otherwise 0.");
        for (int a : ENDS) {
            for (int b : ENDS) {
                int mac = Code.mac(99, a, b);
                due.is("CHECK of " + a + ", " + b, checked(a, b, mac), 1);
                due.is("of another A", checked(a ^ 2, b, mac), 0);
                due.is("of another B", checked(a, b ^ 2, mac), 0);
            }
        }
        for (int bit = 0; bit < 32; bit++) {
            due.is("a mac that is off in bit " + bit, checked(5, 6, Code.mac(99, 5, 6) ^ 1 << bit), 0);
        }
    }

    private static int checked(int a, int b, int c) {
        Side s = new Side(true, new int[] {a, b, c, 4, 5, 6, 7}, Code.call(Code.CHECK));
        s.x.run(1);
        return s.register(1);
    }
}

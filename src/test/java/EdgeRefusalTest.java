import java.util.function.Consumer;

/** The refusals of the calls of the system, each with a test of its own: the answer, and that nothing changes. */
public final class EdgeRefusalTest {
    private static final int MIN = Integer.MIN_VALUE;
    private static final int MAX = Integer.MAX_VALUE;
    private static final int NONE = EnclaveWarden.NONE;
    private static final int BAD = EnclaveWarden.BAD;
    private static final int STATE = EnclaveWarden.STATE;
    private static final int TAKEN = EnclaveWarden.TAKEN;
    private static final int FULL = EnclaveWarden.FULL;
    private static final int[] NO_ENCLAVES = {-1, 3, MIN, MAX};
    private static final int[] NO_REGIONS = {-1, 16, MIN, MAX};
    private static final int[] NO_THREADS = {-1, 2, MIN, MAX};
    private static final int[] NO_ADDRESSES = {-1, 256, MIN, MAX};

    public static void main(String[] args) {
        Due due = new Due();
        create(due);
        load(due);
        loadsSinceCreate(due);
        thread(due);
        seal(due);
        share(due);
        enter(due);
        resume(due);
        stop(due);
        destroy(due);
        claim(due);
        giveUp(due);
        orderOfRefusals(due);
        noCallOfTheSystem(due);
        noCallOfAnEnclave(due);
        due.end();
    }

    /** The call is refused with this answer and changes nothing, made from outside and made by an instruction. */
    private static void refused(Due due, Consumer<EnclaveWarden> scene, int answer, int f, int a, int b, int c) {
        String what = "call " + f + " of " + a + ", " + b + ", " + c;
        due.is(what, Twins.machine(scene).call(f, a, b, c), answer);
        Twins.unchanged(due, what, scene, x -> x.call(f, a, b, c));
        Twins.alike(due, what + " by an instruction", scene, x -> Scene.systemStep(x, Code.call(f), a, b, c),
            x -> Scene.systemStep(x, Code.set(1, answer), a, b, c));
    }

    private static void create(Due due) {
        due.sentence("CREATE", "BAD, also if B is not 1, 2 or 4 or A is no multiple of B.");
        for (int r : NO_REGIONS) {
            refused(due, Scene::absent, BAD, Code.CREATE, r, 1, 0);
        }
        int[] sizes = {0, 3, 5, 8, 16, -1, -2, -4, MIN, MAX};
        for (int b : sizes) {
            refused(due, Scene::absent, BAD, Code.CREATE, 0, b, 0);
            refused(due, Scene::absent, BAD, Code.CREATE, 10, b, 0);
        }
        int[][] noMultiples = {{11, 2}, {9, 4}, {10, 4}, {11, 4}, {15, 2}, {13, 4}, {-4, 4}, {-2, 2}, {16, 4}, {16, 2}, {20, 4}};
        for (int[] n : noMultiples) {
            refused(due, Scene::absent, BAD, Code.CREATE, n[0], n[1], 0);
        }
        due.sentence("CREATE", "TAKEN if not all of them are FREE.");
        int[][] taken = {{0, 1}, {1, 1}, {3, 1}, {8, 1}, {15, 1}, {0, 2}, {8, 2}, {0, 4}, {8, 4}, {12, 4}};
        for (int[] t : taken) {
            refused(due, Scene::absent, TAKEN, Code.CREATE, t[0], t[1], 0);
        }
        Consumer<EnclaveWarden> lastTaken = x -> x.call(Code.CLAIM, 11, 0, 0);
        refused(due, lastTaken, TAKEN, Code.CREATE, 10, 2, 0);
        refused(due, lastTaken, TAKEN, Code.CREATE, 8, 4, 0);
        Consumer<EnclaveWarden> firstTaken = x -> x.call(Code.CLAIM, 8, 0, 0);
        refused(due, firstTaken, TAKEN, Code.CREATE, 8, 2, 0);
        refused(due, firstTaken, TAKEN, Code.CREATE, 8, 4, 0);
        due.sentence("CREATE", "FULL if no enclave is ABSENT.");
        refused(due, Scene::full, FULL, Code.CREATE, 11, 1, 0);
        refused(due, Scene::threadless, FULL, Code.CREATE, 11, 1, 0);
        due.is("one is ABSENT", Twins.machine(Scene::absent).call(Code.CREATE, 11, 1, 0), 1);
    }

    private static void load(Due due) {
        due.sentence("LOAD", "BAD.");
        for (int e : NO_ENCLAVES) {
            refused(due, Scene::threadless, BAD, Code.LOAD, e, 10, 7);
        }
        for (int r : NO_REGIONS) {
            refused(due, Scene::threadless, BAD, Code.LOAD, 1, r, 7);
            refused(due, Scene::threadless, BAD, Code.LOAD, 1, 10, r);
        }
        due.sentence("LOAD", "STATE if A is not BUILDING.");
        refused(due, Scene::absent, STATE, Code.LOAD, 1, 10, 7);
        refused(due, Scene::full, STATE, Code.LOAD, 0, 8, 7);
        refused(due, Scene::full, STATE, Code.LOAD, 2, 12, 7);
        due.sentence("LOAD", "TAKEN if B is not of its block or C is not OWN.");
        Consumer<EnclaveWarden> sharing = ((Consumer<EnclaveWarden>) Scene::threadless).andThen(x -> x.call(Code.SHARE, 1, 3, 0));
        int[] notItsBlock = {0, 7, 1, 3, 9, 11, 12};
        for (int r : notItsBlock) {
            refused(due, sharing, TAKEN, Code.LOAD, 1, r, 7);
        }
        int[] notOwn = {1, 2, 3, 8, 10, 11, 15};
        for (int r : notOwn) {
            refused(due, sharing, TAKEN, Code.LOAD, 1, 10, r);
        }
        due.sentence("LOAD", "FULL if eight LOADs into it were made since its CREATE.");
        refused(due, Scene::full, FULL, Code.LOAD, 1, 10, 7);
    }

    private static void loadsSinceCreate(Due due) {
        due.sentence("LOAD", "FULL if eight LOADs into it were made since its CREATE.");
        EnclaveWarden x = new EnclaveWarden(1);
        x.call(Code.CREATE, 8, 2, 0);
        x.call(Code.CREATE, 10, 1, 0);
        for (int k = 1; k < 9; k++) {
            due.is("one that is refused does not count", x.call(Code.LOAD, 0, 8, 9), TAKEN);
            due.is("another enclave's does not count", x.call(Code.LOAD, 1, 10, 1), 0);
            due.is("the LOAD " + k, x.call(Code.LOAD, 0, 8 + k % 2, 1), 0);
        }
        due.is("the ninth", x.call(Code.LOAD, 0, 8, 1), FULL);
        due.is("into the other region", x.call(Code.LOAD, 0, 9, 1), FULL);
        x.call(Code.DESTROY, 0, 0, 0);
        x.call(Code.CREATE, 8, 1, 0);
        for (int k = 1; k < 9; k++) {
            due.is("after the next CREATE", x.call(Code.LOAD, 0, 8, 1), 0);
        }
        due.is("the ninth again", x.call(Code.LOAD, 0, 8, 1), FULL);
    }

    private static void thread(Due due) {
        due.sentence("THREAD", "BAD.");
        for (int e : NO_ENCLAVES) {
            refused(due, Scene::threadless, BAD, Code.THREAD, e, 160, 0);
        }
        for (int p : NO_ADDRESSES) {
            refused(due, Scene::threadless, BAD, Code.THREAD, 1, p, 0);
        }
        due.sentence("THREAD", "STATE if A is not BUILDING.");
        refused(due, Scene::absent, STATE, Code.THREAD, 1, 160, 0);
        refused(due, Scene::single, STATE, Code.THREAD, 1, 160, 0);
        refused(due, Scene::full, STATE, Code.THREAD, 2, 192, 0);
        due.sentence("THREAD", "TAKEN if address B is not in its block.");
        Consumer<EnclaveWarden> sharing = ((Consumer<EnclaveWarden>) Scene::threadless).andThen(x -> x.call(Code.SHARE, 1, 3, 0));
        int[] outside = {0, 16, 48, 63, 159, 176, 192, 255};
        for (int p : outside) {
            refused(due, sharing, TAKEN, Code.THREAD, 1, p, 0);
        }
        int[] ends = {160, 175};
        for (int p : ends) {
            due.is("inside", Twins.machine(Scene::threadless).call(Code.THREAD, 1, p, 0), 0);
        }
        due.sentence("THREAD", "FULL if it has two threads.");
        refused(due, Scene::full, FULL, Code.THREAD, 1, 160, 0);
        refused(due, Scene::full, FULL, Code.THREAD, 1, 175, 0);
    }

    private static void seal(Due due) {
        due.sentence("SEAL", "BAD.");
        for (int e : NO_ENCLAVES) {
            refused(due, Scene::full, BAD, Code.SEAL, e, 0, 0);
        }
        due.sentence("SEAL", "STATE if it is not BUILDING or has no thread.");
        refused(due, Scene::absent, STATE, Code.SEAL, 1, 0, 0);
        refused(due, Scene::full, STATE, Code.SEAL, 0, 0, 0);
        refused(due, Scene::full, STATE, Code.SEAL, 2, 0, 0);
        refused(due, Scene::threadless, STATE, Code.SEAL, 1, 0, 0);
        due.is("two threads", Twins.machine(Scene::full).call(Code.SEAL, 1, 0, 0), 0);
    }

    private static void share(Due due) {
        due.sentence("SHARE", "BAD.");
        for (int e : NO_ENCLAVES) {
            refused(due, Scene::full, BAD, Code.SHARE, e, 4, 0);
        }
        for (int r : NO_REGIONS) {
            refused(due, Scene::full, BAD, Code.SHARE, 2, r, 0);
        }
        due.sentence("SHARE", "STATE if A is ABSENT.");
        refused(due, Scene::absent, STATE, Code.SHARE, 1, 4, 0);
        for (int e = 0; e < 3; e++) {
            refused(due, x -> { }, STATE, Code.SHARE, e, 4, 0);
        }
        due.sentence("SHARE", "TAKEN if B is not OWN.");
        int[] notOwn = {1, 3, 8, 10, 11, 12, 15};
        for (int r : notOwn) {
            refused(due, Scene::full, TAKEN, Code.SHARE, 2, r, 0);
            refused(due, Scene::full, TAKEN, Code.SHARE, 1, r, 0);
        }
        due.sentence("SHARE", "FULL if two regions are SHARED with A.");
        int[] own = {0, 4, 7};
        for (int r : own) {
            refused(due, Scene::full, FULL, Code.SHARE, 0, r, 0);
        }
    }

    private static void enter(Due due) {
        due.sentence("ENTER", "BAD.");
        for (int e : NO_ENCLAVES) {
            refused(due, Scene::full, BAD, Code.ENTER, e, 1, 0);
        }
        for (int t : NO_THREADS) {
            refused(due, Scene::full, BAD, Code.ENTER, 0, t, 0);
        }
        due.sentence("ENTER", "STATE if A is not SEALED, or there is no such thread, or it is not READY.");
        refused(due, Scene::absent, STATE, Code.ENTER, 1, 0, 0);
        refused(due, Scene::full, STATE, Code.ENTER, 1, 0, 0);
        refused(due, Scene::full, STATE, Code.ENTER, 2, 1, 0);
        refused(due, Scene::single, STATE, Code.ENTER, 1, 1, 0);
        refused(due, Scene::full, STATE, Code.ENTER, 0, 0, 0);
    }

    private static void resume(Due due) {
        due.sentence("RESUME", "BAD.");
        for (int e : NO_ENCLAVES) {
            refused(due, Scene::full, BAD, Code.RESUME, e, 0, 0);
        }
        for (int t : NO_THREADS) {
            refused(due, Scene::full, BAD, Code.RESUME, 0, t, 0);
        }
        due.sentence("RESUME", "STATE if A is not SEALED, or there is no such thread, or it is not SAVED.");
        refused(due, Scene::absent, STATE, Code.RESUME, 1, 0, 0);
        refused(due, Scene::full, STATE, Code.RESUME, 1, 0, 0);
        refused(due, Scene::full, STATE, Code.RESUME, 2, 0, 0);
        refused(due, Scene::single, STATE, Code.RESUME, 1, 1, 0);
        refused(due, Scene::single, STATE, Code.RESUME, 1, 0, 0);
        refused(due, Scene::full, STATE, Code.RESUME, 0, 1, 0);
    }

    private static void stop(Due due) {
        due.sentence("STOP", "BAD.");
        for (int e : NO_ENCLAVES) {
            refused(due, Scene::full, BAD, Code.STOP, e, 0, 0);
        }
        due.sentence("STOP", "STATE if it is not SEALED.");
        refused(due, Scene::absent, STATE, Code.STOP, 1, 0, 0);
        refused(due, Scene::full, STATE, Code.STOP, 1, 0, 0);
        refused(due, Scene::full, STATE, Code.STOP, 2, 0, 0);
    }

    private static void destroy(Due due) {
        due.sentence("DESTROY", "BAD.");
        for (int e : NO_ENCLAVES) {
            refused(due, Scene::full, BAD, Code.DESTROY, e, 0, 0);
        }
        due.sentence("DESTROY", "STATE if it is ABSENT or SEALED.");
        refused(due, Scene::absent, STATE, Code.DESTROY, 1, 0, 0);
        refused(due, Scene::full, STATE, Code.DESTROY, 0, 0, 0);
        for (int e = 0; e < 3; e++) {
            refused(due, x -> { }, STATE, Code.DESTROY, e, 0, 0);
        }
    }

    private static void claim(Due due) {
        due.sentence("CLAIM", "BAD.");
        for (int r : NO_REGIONS) {
            refused(due, Scene::full, BAD, Code.CLAIM, r, 0, 0);
        }
        due.sentence("CLAIM", "TAKEN if it is not FREE.");
        int[] notFree = {0, 1, 3, 7, 8, 10, 15};
        for (int r : notFree) {
            refused(due, Scene::full, TAKEN, Code.CLAIM, r, 0, 0);
        }
    }

    private static void giveUp(Due due) {
        due.sentence("YIELD", "BAD.");
        for (int r : NO_REGIONS) {
            refused(due, Scene::full, BAD, Code.YIELD, r, 0, 0);
        }
        due.sentence("YIELD", "TAKEN if it is not OWN.");
        int[] notOwn = {1, 2, 3, 8, 10, 11, 15};
        for (int r : notOwn) {
            refused(due, Scene::full, TAKEN, Code.YIELD, r, 0, 0);
        }
    }

    private static void orderOfRefusals(Due due) {
        due.sentence("CALLS OF THE SYSTEM", "The first refusal that holds, in the order in which they stand, is the answer, and nothing changes then");
        refused(due, Scene::full, BAD, Code.CREATE, 1, 2, 0);
        refused(due, Scene::full, TAKEN, Code.CREATE, 10, 1, 0);
        refused(due, Scene::full, BAD, Code.LOAD, 0, 16, 7);
        refused(due, Scene::full, BAD, Code.LOAD, 0, 8, -1);
        refused(due, Scene::absent, BAD, Code.LOAD, 1, 10, 16);
        refused(due, Scene::full, STATE, Code.LOAD, 0, 11, 11);
        refused(due, Scene::full, TAKEN, Code.LOAD, 1, 11, 7);
        refused(due, Scene::full, TAKEN, Code.LOAD, 1, 10, 11);
        refused(due, Scene::full, BAD, Code.THREAD, 0, 256, 0);
        refused(due, Scene::absent, BAD, Code.THREAD, 1, -1, 0);
        refused(due, Scene::full, STATE, Code.THREAD, 0, 0, 0);
        refused(due, Scene::full, TAKEN, Code.THREAD, 1, 0, 0);
        refused(due, Scene::absent, BAD, Code.SHARE, 1, 16, 0);
        refused(due, Scene::absent, STATE, Code.SHARE, 1, 11, 0);
        refused(due, Scene::full, TAKEN, Code.SHARE, 0, 11, 0);
        refused(due, Scene::full, TAKEN, Code.SHARE, 0, 1, 0);
        refused(due, Scene::absent, BAD, Code.ENTER, 1, 2, 0);
        refused(due, Scene::absent, BAD, Code.RESUME, 1, -1, 0);
    }

    private static void noCallOfTheSystem(Due due) {
        due.sentence("CALLS OF THE SYSTEM", "Every other number, also one that is a call of the other side only, is answered NONE, and nothing else happens.");
        int[] numbers = {0, -1, 12, 13, 14, 15, 16, 17, 18, 19, 20, 27, 32767, -32768};
        for (int f : numbers) {
            refused(due, Scene::full, NONE, f, 0, 1, 7);
            refused(due, Scene::full, NONE, f, 11, 1, 0);
        }
        int[] tooLargeForAnInstruction = {65537, 65536 + Code.CLAIM, MIN, MIN + Code.CLAIM, MAX};
        for (int f : tooLargeForAnInstruction) {
            due.is("call " + f, Twins.machine(Scene::full).call(f, 11, 1, 0), NONE);
            Twins.unchanged(due, "call " + f, Scene::full, x -> x.call(f, 11, 1, 0));
        }
    }

    private static void noCallOfAnEnclave(Due due) {
        due.sentence("CALLS OF AN ENCLAVE", "Every other number, also one that is a call of the other side only, is answered NONE, and nothing else happens.");
        int[] numbers = {0, -1, 12, 13, 14, 15, 20, 21, 27, 32767, -32768};
        for (int f : numbers) {
            noCall(due, Scene::guest, f, 0, 1, 7);
        }
        // With these the system would be heard.
        int[][] ofTheSystem = {{Code.LOAD, 2, 12, 7}, {Code.THREAD, 2, 192, 0}, {Code.SEAL, 2, 0, 0}, {Code.SHARE, 2, 5, 0},
            {Code.ENTER, 0, 1, 0}, {Code.RESUME, 0, 0, 0}, {Code.STOP, 0, 0, 0}, {Code.DESTROY, 2, 0, 0}, {Code.CLAIM, 11, 0, 0},
            {Code.YIELD, 5, 0, 0}};
        for (int[] c : ofTheSystem) {
            due.yes("the system is heard", Twins.machine(Scene::beforeGuest).call(c[0], c[1], c[2], c[3]) >= 0);
            noCall(due, Scene::guest, c[0], c[1], c[2], c[3]);
        }
        Consumer<EnclaveWarden> alone = x -> {
            x.call(Code.DESTROY, 2, 0, 0);
            Scene.enterGuest(x);
        };
        Consumer<EnclaveWarden> beforeGuest = Scene::beforeGuest;
        noCall(due, beforeGuest.andThen(alone), Code.CREATE, 11, 1, 0);
    }

    /** A thread that makes the call does what one does that makes r1 = NONE in its place. */
    private static void noCall(Due due, Consumer<EnclaveWarden> guest, int f, int a, int b, int c) {
        Twins.alike(due, "call " + f + " of " + a + ", " + b + ", " + c, guest, x -> Scene.guestStep(x, Code.call(f), a, b, c),
            x -> Scene.guestStep(x, Code.set(1, NONE), a, b, c));
        EnclaveWarden x = Twins.machine(guest);
        Scene.guestStep(x, Code.call(f), a, b, c);
        due.is("answer of " + f, x.kept(1, 0, 1), NONE);
        due.is("who runs after " + f, x.running(), 2);
    }
}

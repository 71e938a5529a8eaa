/** Promise 10: call, with every call of the system and the order of its refusals. */
public final class CallTest {
    private static final int[] NO_ENCLAVES = {-1, 3, Integer.MIN_VALUE, Integer.MAX_VALUE};
    private static final int[] NO_REGIONS = {-1, 16, Integer.MIN_VALUE, Integer.MAX_VALUE};

    public static void main(String[] args) {
        Due due = new Due();
        numbers(due);
        create(due);
        createAgain(due);
        load(due);
        loadsAreCounted(due);
        addThread(due);
        seal(due);
        share(due);
        enter(due);
        resume(due);
        stop(due);
        destroy(due);
        claimAndYield(due);
        busy(due);
        noStep(due);
        due.end();
    }

    private static void numbers(Due due) {
        EnclaveWarden x = new EnclaveWarden(1);
        int[] wrong = {0, -1, 12, 13, 15, 16, 17, 18, 19, 20, Integer.MIN_VALUE, Integer.MAX_VALUE};
        for (int f : wrong) {
            due.is("call " + f, x.call(f, 9, 1, 0), EnclaveWarden.NONE);
        }
        due.is("nothing else happens", x.exit(0), 0);
        due.is("nothing else happens", x.register(1), 0);
        due.is("nothing else happens", x.region(9), 0);
    }

    private static void create(Due due) {
        EnclaveWarden x = new EnclaveWarden(1);
        int[] sizes = {0, 3, 5, 8, 16, -1, -2, -4, Integer.MIN_VALUE, Integer.MAX_VALUE};
        for (int b : sizes) {
            due.is("CREATE of size " + b, x.call(Code.CREATE, 8, b, 0), EnclaveWarden.BAD);
        }
        for (int a : NO_REGIONS) {
            due.is("CREATE at " + a, x.call(Code.CREATE, a, 1, 0), EnclaveWarden.BAD);
        }
        due.is("CREATE at -4", x.call(Code.CREATE, -4, 4, 0), EnclaveWarden.BAD);
        due.is("CREATE at 9", x.call(Code.CREATE, 9, 2, 0), EnclaveWarden.BAD);
        due.is("CREATE at 10", x.call(Code.CREATE, 10, 4, 0), EnclaveWarden.BAD);
        due.is("CREATE at 3, OWN, but no multiple", x.call(Code.CREATE, 3, 2, 0), EnclaveWarden.BAD);
        due.is("CREATE in OWN", x.call(Code.CREATE, 4, 4, 0), EnclaveWarden.TAKEN);
        x.call(Code.CLAIM, 11, 0, 0);
        due.is("CREATE with its last region OWN", x.call(Code.CREATE, 8, 4, 0), EnclaveWarden.TAKEN);
        due.is("no region changed", x.region(8), 0);
        due.is("CREATE of 4", x.call(Code.CREATE, 12, 4, 99), 0);
        due.is("CREATE of 2", x.call(Code.CREATE, 8, 2, -1), 1);
        due.is("CREATE of 1", x.call(Code.CREATE, 10, 1, 0), 2);
        int[] kinds = {3, 3, 4, 1, 2, 2, 2, 2};
        for (int k = 0; k < 8; k++) {
            due.is("region " + (8 + k), x.region(8 + k), kinds[k]);
        }
        due.is("enclave 0", x.enclave(0), 1);
        due.is("measure 0", x.measure(0), Code.added(0, 1, 12, 4));
        due.is("measure 1", x.measure(1), Code.added(0, 1, 8, 2));
        due.is("measure 2", x.measure(2), Code.added(0, 1, 10, 1));
        due.is("TAKEN before FULL", x.call(Code.CREATE, 0, 1, 0), EnclaveWarden.TAKEN);
        x.call(Code.YIELD, 0, 0, 0);
        due.is("FULL", x.call(Code.CREATE, 0, 1, 0), EnclaveWarden.FULL);
        due.is("FULL changes nothing", x.region(0), 0);
    }

    private static void createAgain(Due due) {
        EnclaveWarden x = new EnclaveWarden(1);
        Code.sealed(x, 8, 1);
        Code.sealed(x, 9, 1);
        Code.sealed(x, 10, 1);
        x.call(Code.STOP, 1, 0, 0);
        x.call(Code.DESTROY, 1, 0, 0);
        x.call(Code.YIELD, 2, 0, 0);
        x.call(Code.YIELD, 3, 0, 0);
        due.is("the least ABSENT one", x.call(Code.CREATE, 2, 2, 0), 1);
        due.is("the measure begins anew", x.measure(1), Code.added(0, 1, 2, 2));
        due.is("without threads", x.thread(1, 0), 0);
        due.is("so it cannot be SEALED", x.call(Code.SEAL, 1, 0, 0), EnclaveWarden.STATE);
        due.is("threads from 0 on", x.call(Code.THREAD, 1, 32, 0), 0);
        x.call(Code.DESTROY, 1, 0, 0);
        x.call(Code.STOP, 0, 0, 0);
        x.call(Code.DESTROY, 0, 0, 0);
        due.is("of two ABSENT ones the least", x.call(Code.CREATE, 8, 1, 0), 0);
    }

    private static void load(Due due) {
        EnclaveWarden x = new EnclaveWarden(1);
        for (int e : NO_ENCLAVES) {
            due.is("LOAD of " + e, x.call(Code.LOAD, e, 8, 1), EnclaveWarden.BAD);
        }
        due.is("LOAD, ABSENT", x.call(Code.LOAD, 0, 8, 1), EnclaveWarden.STATE);
        x.call(Code.CREATE, 8, 2, 0);
        x.call(Code.CREATE, 12, 1, 0);
        for (int r : NO_REGIONS) {
            due.is("LOAD into " + r, x.call(Code.LOAD, 0, r, 1), EnclaveWarden.BAD);
            due.is("LOAD from " + r, x.call(Code.LOAD, 0, 8, r), EnclaveWarden.BAD);
            due.is("BAD before STATE", x.call(Code.LOAD, 2, 8, r), EnclaveWarden.BAD);
        }
        x.call(Code.SHARE, 0, 3, 0);
        int[][] taken = {{7, 1}, {10, 1}, {12, 1}, {3, 1}, {8, 8}, {8, 9}, {8, 10}, {8, 12}, {8, 3}};
        for (int[] t : taken) {
            due.is("LOAD into " + t[0] + " from " + t[1], x.call(Code.LOAD, 0, t[0], t[1]), EnclaveWarden.TAKEN);
        }
        int[] words = new int[16];
        for (int k = 0; k < 16; k++) {
            words[k] = k * 1000003 - 7;
        }
        Code.poke(x, 16, words);
        int measure = x.measure(0);
        due.is("LOAD", x.call(Code.LOAD, 0, 9, 1), 0);
        for (int k = 0; k < 16; k++) {
            due.is("copied", x.bare(144 + k), words[k]);
            due.is("kept by the system", x.peek(16 + k), words[k]);
            due.is("not copied elsewhere", x.bare(128 + k), 0);
        }
        due.is("measure", x.measure(0), Code.added(Code.added(measure, 2, 9), words));
        due.is("the other's measure", x.measure(1), Code.added(0, 1, 12, 1));
        due.is("the region stays OWN", x.region(1), 1);
        x.call(Code.THREAD, 0, 128, 0);
        x.call(Code.SEAL, 0, 0, 0);
        due.is("LOAD, SEALED", x.call(Code.LOAD, 0, 9, 1), EnclaveWarden.STATE);
        due.is("STATE before TAKEN", x.call(Code.LOAD, 0, 10, 10), EnclaveWarden.STATE);
        x.call(Code.STOP, 0, 0, 0);
        due.is("LOAD, STOPPED", x.call(Code.LOAD, 0, 9, 1), EnclaveWarden.STATE);
    }

    private static void loadsAreCounted(Due due) {
        EnclaveWarden x = new EnclaveWarden(1);
        x.call(Code.CREATE, 8, 2, 0);
        x.call(Code.CREATE, 10, 1, 0);
        for (int k = 0; k < 8; k++) {
            due.is("a refused LOAD", x.call(Code.LOAD, 0, 8, 15), EnclaveWarden.TAKEN);
            due.is("LOAD " + k, x.call(Code.LOAD, 0, 8 + k % 2, 1), 0);
        }
        int measure = x.measure(0);
        x.poke(16, 5);
        due.is("LOAD 8", x.call(Code.LOAD, 0, 8, 1), EnclaveWarden.FULL);
        due.is("nothing copied", x.bare(128), 0);
        due.is("nothing added", x.measure(0), measure);
        due.is("TAKEN before FULL", x.call(Code.LOAD, 0, 10, 1), EnclaveWarden.TAKEN);
        due.is("another enclave's LOAD", x.call(Code.LOAD, 1, 10, 1), 0);
        x.call(Code.DESTROY, 0, 0, 0);
        x.call(Code.CREATE, 8, 1, 0);
        due.is("LOADs since CREATE", x.call(Code.LOAD, 0, 8, 1), 0);
    }

    private static void addThread(Due due) {
        EnclaveWarden x = new EnclaveWarden(1);
        due.is("THREAD, ABSENT", x.call(Code.THREAD, 0, 128, 0), EnclaveWarden.STATE);
        x.call(Code.CREATE, 10, 2, 0);
        x.call(Code.CREATE, 8, 1, 0);
        for (int e : NO_ENCLAVES) {
            due.is("THREAD of " + e, x.call(Code.THREAD, e, 160, 0), EnclaveWarden.BAD);
        }
        int[] wrong = {-1, 256, Integer.MIN_VALUE, Integer.MAX_VALUE};
        for (int p : wrong) {
            due.is("THREAD at " + p, x.call(Code.THREAD, 0, p, 0), EnclaveWarden.BAD);
            due.is("BAD before STATE", x.call(Code.THREAD, 2, p, 0), EnclaveWarden.BAD);
        }
        x.call(Code.SHARE, 0, 2, 0);
        int[] taken = {0, 32, 159, 192, 128, 255};
        for (int p : taken) {
            due.is("THREAD at " + p, x.call(Code.THREAD, 0, p, 0), EnclaveWarden.TAKEN);
        }
        int measure = x.measure(0);
        due.is("the last place", x.call(Code.THREAD, 0, 191, 0), 0);
        due.is("READY", x.thread(0, 0), 1);
        due.is("no second one yet", x.thread(0, 1), 0);
        due.is("measure", x.measure(0), Code.added(measure, 3, 191));
        due.is("the first place", x.call(Code.THREAD, 0, 160, 0), 1);
        due.is("READY", x.thread(0, 1), 1);
        due.is("measure", x.measure(0), Code.added(measure, 3, 191, 3, 160));
        due.is("FULL", x.call(Code.THREAD, 0, 160, 0), EnclaveWarden.FULL);
        due.is("TAKEN before FULL", x.call(Code.THREAD, 0, 159, 0), EnclaveWarden.TAKEN);
        due.is("FULL changes nothing", x.measure(0), Code.added(measure, 3, 191, 3, 160));
        x.call(Code.SEAL, 0, 0, 0);
        due.is("THREAD, SEALED", x.call(Code.THREAD, 0, 160, 0), EnclaveWarden.STATE);
        due.is("STATE before TAKEN", x.call(Code.THREAD, 0, 0, 0), EnclaveWarden.STATE);
    }

    private static void seal(Due due) {
        EnclaveWarden x = new EnclaveWarden(1);
        for (int e : NO_ENCLAVES) {
            due.is("SEAL of " + e, x.call(Code.SEAL, e, 0, 0), EnclaveWarden.BAD);
        }
        due.is("SEAL, ABSENT", x.call(Code.SEAL, 0, 0, 0), EnclaveWarden.STATE);
        x.call(Code.CREATE, 8, 1, 0);
        due.is("SEAL without a thread", x.call(Code.SEAL, 0, 0, 0), EnclaveWarden.STATE);
        due.is("still BUILDING", x.enclave(0), 1);
        x.call(Code.THREAD, 0, 130, 0);
        int measure = x.measure(0);
        due.is("SEAL", x.call(Code.SEAL, 0, 0, 0), 0);
        due.is("SEALED", x.enclave(0), 2);
        due.is("measure", x.measure(0), Code.added(measure, 4));
        due.is("SEAL, SEALED", x.call(Code.SEAL, 0, 0, 0), EnclaveWarden.STATE);
        x.call(Code.STOP, 0, 0, 0);
        due.is("SEAL, STOPPED", x.call(Code.SEAL, 0, 0, 0), EnclaveWarden.STATE);
        due.is("nothing added", x.measure(0), Code.added(measure, 4));
    }

    private static void share(Due due) {
        EnclaveWarden x = new EnclaveWarden(1);
        for (int e : NO_ENCLAVES) {
            due.is("SHARE with " + e, x.call(Code.SHARE, e, 1, 0), EnclaveWarden.BAD);
        }
        due.is("SHARE, ABSENT", x.call(Code.SHARE, 0, 1, 0), EnclaveWarden.STATE);
        for (int r : NO_REGIONS) {
            due.is("SHARE of " + r, x.call(Code.SHARE, 0, r, 0), EnclaveWarden.BAD);
        }
        x.call(Code.CREATE, 8, 1, 0);
        x.call(Code.CREATE, 9, 1, 0);
        x.poke(20, 55);
        due.is("SHARE of FREE", x.call(Code.SHARE, 0, 10, 0), EnclaveWarden.TAKEN);
        due.is("SHARE of PRIVATE", x.call(Code.SHARE, 0, 8, 0), EnclaveWarden.TAKEN);
        int measure = x.measure(0);
        due.is("SHARE, BUILDING", x.call(Code.SHARE, 0, 1, 0), 0);
        due.is("region", x.region(1), 5);
        due.is("its words stay", x.peek(20), 55);
        due.is("the measure stays", x.measure(0), measure);
        due.is("SHARE of SHARED", x.call(Code.SHARE, 1, 1, 0), EnclaveWarden.TAKEN);
        x.call(Code.THREAD, 0, 128, 0);
        x.call(Code.SEAL, 0, 0, 0);
        x.call(Code.STOP, 0, 0, 0);
        due.is("SHARE, STOPPED", x.call(Code.SHARE, 0, 2, 0), 0);
        due.is("FULL", x.call(Code.SHARE, 0, 3, 0), EnclaveWarden.FULL);
        due.is("region stays OWN", x.region(3), 1);
        due.is("TAKEN before FULL", x.call(Code.SHARE, 0, 2, 0), EnclaveWarden.TAKEN);
        due.is("another enclave's SHARE", x.call(Code.SHARE, 1, 3, 0), 0);
        due.is("region", x.region(3), 6);
        x.call(Code.DESTROY, 1, 0, 0);
        due.is("DESTROY gives back its own only", x.region(2), 5);
        due.is("DESTROY gives back", x.region(3), 1);
    }

    private static void enter(Due due) {
        EnclaveWarden x = new EnclaveWarden(1);
        for (int e : NO_ENCLAVES) {
            due.is("ENTER of " + e, x.call(Code.ENTER, e, 0, 0), EnclaveWarden.BAD);
        }
        int[] noThreads = {-1, 2, Integer.MIN_VALUE, Integer.MAX_VALUE};
        for (int t : noThreads) {
            due.is("ENTER by " + t, x.call(Code.ENTER, 0, t, 0), EnclaveWarden.BAD);
        }
        due.is("ENTER, ABSENT", x.call(Code.ENTER, 0, 0, 0), EnclaveWarden.STATE);
        x.call(Code.CREATE, 8, 1, 0);
        x.call(Code.THREAD, 0, 133, 0);
        due.is("ENTER, BUILDING", x.call(Code.ENTER, 0, 0, 0), EnclaveWarden.STATE);
        x.call(Code.SEAL, 0, 0, 0);
        due.is("ENTER by a thread that is not", x.call(Code.ENTER, 0, 1, 0), EnclaveWarden.STATE);
        int measure = x.measure(0);
        due.is("ENTER", x.call(Code.ENTER, 0, 0, -6), 0);
        due.is("running", x.running(), 0);
        due.is("thread", x.thread(0, 0), 2);
        for (int k = 0; k < 8; k++) {
            due.is("its register " + k, x.kept(0, 0, k), k == 1 ? -6 : 0);
        }
        due.is("its pc", x.kept(0, 0, 8), 133);
        due.is("the enclave stays SEALED", x.enclave(0), 2);
        due.is("the measure stays", x.measure(0), measure);
        x.period(1);
        x.run(1);
        due.is("ENTER, SAVED", x.call(Code.ENTER, 0, 0, 0), EnclaveWarden.STATE);
    }

    private static void resume(Due due) {
        EnclaveWarden x = new EnclaveWarden(1);
        for (int e : NO_ENCLAVES) {
            due.is("RESUME of " + e, x.call(Code.RESUME, e, 0, 0), EnclaveWarden.BAD);
        }
        due.is("RESUME by -1", x.call(Code.RESUME, 0, -1, 0), EnclaveWarden.BAD);
        due.is("RESUME by 2", x.call(Code.RESUME, 0, 2, 0), EnclaveWarden.BAD);
        due.is("RESUME, ABSENT", x.call(Code.RESUME, 0, 0, 0), EnclaveWarden.STATE);
        Code.sealed(x, 8, Code.set(1, 3), Code.addNumber(2, 1, 4), Code.call(Code.EXIT));
        due.is("RESUME, READY", x.call(Code.RESUME, 0, 0, 0), EnclaveWarden.STATE);
        due.is("RESUME by a thread that is not", x.call(Code.RESUME, 0, 1, 0), EnclaveWarden.STATE);
        x.call(Code.ENTER, 0, 0, 0);
        x.period(3);
        x.run(3);
        due.is("SAVED", x.thread(0, 0), 3);
        due.is("RESUME", x.call(Code.RESUME, 0, 0, 77), 0);
        due.is("running", x.running(), 0);
        due.is("thread", x.thread(0, 0), 2);
        due.is("its r1", x.kept(0, 0, 1), 3);
        due.is("its r2", x.kept(0, 0, 2), 7);
        due.is("its pc", x.kept(0, 0, 8), 130);
        x.run(1);
        due.is("goes on to its exit", x.exit(3), 3);
        due.is("RESUME, READY again", x.call(Code.RESUME, 0, 0, 0), EnclaveWarden.STATE);
        x.call(Code.ENTER, 0, 0, 8);
        due.is("ENTER begins anew: r1", x.kept(0, 0, 1), 8);
        due.is("ENTER begins anew: r2", x.kept(0, 0, 2), 0);
        due.is("ENTER begins anew: pc", x.kept(0, 0, 8), 128);
    }

    private static void stop(Due due) {
        EnclaveWarden x = new EnclaveWarden(1);
        for (int e : NO_ENCLAVES) {
            due.is("STOP of " + e, x.call(Code.STOP, e, 0, 0), EnclaveWarden.BAD);
        }
        due.is("STOP, ABSENT", x.call(Code.STOP, 0, 0, 0), EnclaveWarden.STATE);
        x.call(Code.CREATE, 8, 1, 0);
        due.is("STOP, BUILDING", x.call(Code.STOP, 0, 0, 0), EnclaveWarden.STATE);
        x.call(Code.THREAD, 0, 128, 0);
        x.call(Code.THREAD, 0, 129, 0);
        x.call(Code.SEAL, 0, 0, 0);
        int measure = x.measure(0);
        x.call(Code.ENTER, 0, 0, 6);
        x.period(1);
        x.run(1);
        due.is("STOP", x.call(Code.STOP, 0, 0, 0), 0);
        due.is("STOPPED", x.enclave(0), 3);
        due.is("a SAVED thread stays", x.thread(0, 0), 3);
        due.is("a READY thread stays", x.thread(0, 1), 1);
        due.is("what it kept stays", x.kept(0, 0, 1), 6);
        due.is("the measure stays", x.measure(0), measure);
        due.is("the block stays", x.region(8), 2);
        due.is("ENTER, STOPPED", x.call(Code.ENTER, 0, 1, 0), EnclaveWarden.STATE);
        due.is("RESUME, STOPPED", x.call(Code.RESUME, 0, 0, 0), EnclaveWarden.STATE);
        due.is("STOP, STOPPED", x.call(Code.STOP, 0, 0, 0), EnclaveWarden.STATE);
    }

    private static void destroy(Due due) {
        EnclaveWarden x = new EnclaveWarden(1);
        for (int e : NO_ENCLAVES) {
            due.is("DESTROY of " + e, x.call(Code.DESTROY, e, 0, 0), EnclaveWarden.BAD);
        }
        due.is("DESTROY, ABSENT", x.call(Code.DESTROY, 0, 0, 0), EnclaveWarden.STATE);
        Code.poke(x, 112, 1, 2, 3, 4, 5, 6, 7, 8, 9, 10, 11, 12, 13, 14, 15, 16);
        x.call(Code.CREATE, 12, 4, 0);
        x.call(Code.CREATE, 8, 1, 0);
        for (int r = 12; r < 16; r++) {
            x.call(Code.LOAD, 0, r, 7);
        }
        x.call(Code.LOAD, 1, 8, 7);
        x.call(Code.SHARE, 0, 1, 0);
        x.call(Code.SHARE, 0, 7, 0);
        due.is("DESTROY, BUILDING", x.call(Code.DESTROY, 0, 0, 0), 0);
        for (int p = 192; p < 256; p++) {
            due.is("bare " + p, x.bare(p), 0);
        }
        for (int r = 12; r < 16; r++) {
            due.is("region " + r, x.region(r), 0);
        }
        for (int k = 0; k < 16; k++) {
            due.is("words of a SHARED region stay", x.peek(112 + k), k + 1);
            due.is("words of another enclave stay", x.bare(128 + k), k + 1);
        }
        due.is("region 1", x.region(1), 1);
        due.is("region 7", x.region(7), 1);
        due.is("region 8", x.region(8), 3);
        due.is("ABSENT", x.enclave(0), 0);
        due.is("the other one", x.enclave(1), 1);
        x.call(Code.THREAD, 1, 128, 0);
        x.call(Code.SEAL, 1, 0, 0);
        due.is("DESTROY, SEALED", x.call(Code.DESTROY, 1, 0, 0), EnclaveWarden.STATE);
        due.is("nothing changes", x.bare(128), 1);
        x.call(Code.STOP, 1, 0, 0);
        due.is("DESTROY, STOPPED", x.call(Code.DESTROY, 1, 0, 0), 0);
        due.is("ABSENT", x.enclave(1), 0);
    }

    private static void claimAndYield(Due due) {
        EnclaveWarden x = new EnclaveWarden(1);
        for (int r : NO_REGIONS) {
            due.is("CLAIM of " + r, x.call(Code.CLAIM, r, 0, 0), EnclaveWarden.BAD);
            due.is("YIELD of " + r, x.call(Code.YIELD, r, 0, 0), EnclaveWarden.BAD);
        }
        x.call(Code.CREATE, 8, 1, 0);
        x.call(Code.SHARE, 0, 1, 0);
        int[] notFree = {0, 1, 8};
        for (int r : notFree) {
            due.is("CLAIM of " + r, x.call(Code.CLAIM, r, 0, 0), EnclaveWarden.TAKEN);
        }
        int[] notOwn = {1, 8, 9};
        for (int r : notOwn) {
            due.is("YIELD of " + r, x.call(Code.YIELD, r, 0, 0), EnclaveWarden.TAKEN);
        }
        due.is("CLAIM", x.call(Code.CLAIM, 15, 0, 0), 0);
        due.is("OWN", x.region(15), 1);
        for (int p = 224; p < 256; p++) {
            x.poke(p, p);
        }
        x.poke(31, 6);
        x.poke(47, 7);
        x.poke(48, 8);
        due.is("YIELD", x.call(Code.YIELD, 2, 0, 0), 0);
        due.is("FREE", x.region(2), 0);
        due.is("its words", x.bare(47), 0);
        due.is("a word before it", x.bare(31), 6);
        due.is("a word behind it", x.bare(48), 8);
        due.is("YIELD of the last", x.call(Code.YIELD, 15, 0, 0), 0);
        for (int p = 240; p < 256; p++) {
            due.is("its words", x.bare(p), 0);
        }
        due.is("CLAIM back", x.call(Code.CLAIM, 2, 0, 0), 0);
        due.is("still empty", x.peek(47), 0);
    }

    private static void busy(Due due) {
        EnclaveWarden x = new EnclaveWarden(1);
        Code.sealed(x, 8, Code.call(Code.EXIT));
        x.call(Code.ENTER, 0, 0, 0);
        for (int f = -1; f < 21; f++) {
            due.is("call " + f, x.call(f, 12, 1, 0), EnclaveWarden.BUSY);
            due.is("call " + f, x.call(f, 0, 0, 0), EnclaveWarden.BUSY);
        }
        due.is("no CREATE", x.region(12), 0);
        due.is("no STOP", x.enclave(0), 2);
        due.is("no EXIT", x.exit(0), 0);
        x.run(1);
        due.is("answers again", x.call(Code.CREATE, 12, 1, 0), 1);
    }

    private static void noStep(Due due) {
        EnclaveWarden x = new EnclaveWarden(1);
        for (int k = 1; k < 8; k++) {
            x.give(k, k * 11);
        }
        x.boot(90);
        due.is("CREATE", x.call(Code.CREATE, 8, 1, 0), 0);
        due.is("NONE", x.call(99, 8, 1, 0), EnclaveWarden.NONE);
        x.call(Code.THREAD, 0, 128, 0);
        x.call(Code.SEAL, 0, 0, 0);
        due.is("ENTER", x.call(Code.ENTER, 0, 0, 5), 0);
        for (int k = 1; k < 8; k++) {
            due.is("register " + k, x.register(k), k * 11);
        }
        due.is("pc", x.pc(), 90);
        due.is("tick", x.tick(), 0);
    }
}

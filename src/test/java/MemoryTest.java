/** Promises 1 to 4: a new object, poke, peek, bare. */
public final class MemoryTest {
    private static final int[] NO_ADDRESSES = {-1, -16, 256, 257, 1 << 20, Integer.MIN_VALUE, Integer.MAX_VALUE};

    public static void main(String[] args) {
        Due due = new Due();
        newMemory(due);
        newMachine(due);
        ordinaryWords(due);
        noAddresses(due);
        freeRegions(due);
        privateRegions(due);
        sharedRegions(due);
        whileAnEnclaveRuns(due);
        objectsApart(due);
        due.end();
    }

    private static void newMemory(Due due) {
        EnclaveWarden x = new EnclaveWarden(17);
        for (int p = 0; p < 256; p++) {
            due.is("new: bare " + p, x.bare(p), 0);
        }
        EnclaveWarden y = new EnclaveWarden(17);
        for (int p = 0; p < 256; p++) {
            due.is("new: peek " + p, y.peek(p), 0);
        }
        for (int r = 0; r < 16; r++) {
            due.is("new: region " + r, y.region(r), r < 8 ? 1 : 0);
        }
    }

    private static void newMachine(Due due) {
        EnclaveWarden x = new EnclaveWarden(17);
        for (int e = 0; e < 3; e++) {
            due.is("new: enclave", x.enclave(e), 0);
            due.is("new: measure", x.measure(e), 0);
            due.is("new: thread 0", x.thread(e, 0), 0);
            due.is("new: thread 1", x.thread(e, 1), 0);
            due.is("new: kept", x.kept(e, 0, 8), 0);
        }
        for (int k = 0; k < 8; k++) {
            due.is("new: register", x.register(k), 0);
            due.is("new: exit", x.exit(k), 0);
        }
        due.is("new: pc", x.pc(), 0);
        due.no("new: halted", x.halted());
        due.is("new: tick", x.tick(), 0);
        due.is("new: running", x.running(), -1);
        due.yes("new: the secret", x.vouch(3, 4, Code.mac(17, 3, 4)));
    }

    private static void ordinaryWords(Due due) {
        EnclaveWarden x = new EnclaveWarden(1);
        int[] words = {5, -1, Integer.MIN_VALUE, Integer.MAX_VALUE, 0};
        int[] places = {0, 15, 16, 127, 64};
        for (int k = 0; k < words.length; k++) {
            due.yes("poke", x.poke(places[k], words[k]));
        }
        for (int k = 0; k < words.length; k++) {
            due.is("peek", x.peek(places[k]), words[k]);
            due.is("bare", x.bare(places[k]), words[k]);
        }
        due.is("a neighbour", x.peek(1), 0);
        due.yes("poke again", x.poke(0, 6));
        due.is("the later word", x.peek(0), 6);
    }

    private static void noAddresses(Due due) {
        EnclaveWarden x = new EnclaveWarden(1);
        for (int r = 8; r < 16; r++) {
            x.call(Code.CLAIM, r, 0, 0);
        }
        for (int p : NO_ADDRESSES) {
            due.no("poke at " + p, x.poke(p, 9));
            due.is("peek at " + p, x.peek(p), 0);
            due.is("bare at " + p, x.bare(p), 0);
        }
        for (int p = 0; p < 256; p++) {
            due.is("unchanged " + p, x.bare(p), 0);
        }
        due.yes("the last address", x.poke(255, 3));
        due.is("the last address", x.peek(255), 3);
        due.is("the last address, bare", x.bare(255), 3);
    }

    private static void freeRegions(Due due) {
        EnclaveWarden x = new EnclaveWarden(1);
        due.no("poke at 128, FREE", x.poke(128, 7));
        due.is("bare at 128, FREE", x.bare(128), 0);
        due.is("CLAIM", x.call(Code.CLAIM, 8, 0, 0), 0);
        due.yes("poke at 128, OWN", x.poke(128, 7));
        due.is("peek at 128, OWN", x.peek(128), 7);
        due.no("poke at 144, FREE", x.poke(144, 7));
    }

    private static void privateRegions(Due due) {
        EnclaveWarden x = new EnclaveWarden(1);
        Code.sealed(x, 9, 41, 42);
        due.is("peek at 144, PRIVATE", x.peek(144), 0);
        due.is("bare at 144, PRIVATE", x.bare(144), 41);
        due.is("bare at 145, PRIVATE", x.bare(145), 42);
        due.no("poke at 145, PRIVATE", x.poke(145, 8));
        due.is("bare at 145, still", x.bare(145), 42);
    }

    private static void sharedRegions(Due due) {
        EnclaveWarden x = new EnclaveWarden(1);
        for (int e = 0; e < 3; e++) {
            Code.sealed(x, 8 + e, 1);
            due.is("SHARE", x.call(Code.SHARE, e, e, 0), 0);
            due.yes("poke at a SHARED place", x.poke(16 * e + 15, e + 50));
            due.is("peek at a SHARED place", x.peek(16 * e + 15), e + 50);
            due.is("bare at a SHARED place", x.bare(16 * e + 15), e + 50);
        }
    }

    private static void whileAnEnclaveRuns(Due due) {
        EnclaveWarden x = new EnclaveWarden(1);
        Code.sealed(x, 8, 77);
        x.call(Code.SHARE, 0, 2, 0);
        due.is("ENTER", x.call(Code.ENTER, 0, 0, 0), 0);
        due.yes("poke, OWN", x.poke(5, 6));
        due.is("peek, OWN", x.peek(5), 6);
        due.yes("poke, SHARED", x.poke(33, 7));
        due.is("peek, SHARED", x.peek(33), 7);
        due.no("poke, PRIVATE", x.poke(128, 8));
        due.is("peek, PRIVATE", x.peek(128), 0);
        due.is("bare, PRIVATE", x.bare(128), 77);
    }

    private static void objectsApart(Due due) {
        EnclaveWarden x = new EnclaveWarden(1);
        EnclaveWarden y = new EnclaveWarden(2);
        x.poke(3, 4);
        x.give(3, 4);
        x.call(Code.CLAIM, 9, 0, 0);
        due.is("the other object's memory", y.peek(3), 0);
        due.is("the other object's register", y.register(3), 0);
        due.is("the other object's region", y.region(9), 0);
    }
}

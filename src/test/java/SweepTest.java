/** No call throws, whatever its arguments, and what the document says of every state holds in every state reached. */
public final class SweepTest {
    private static final int OBJECTS = 2000;
    // With the questions of oneState still within the 512 calls that an object is used for.
    private static final int CALLS = 360;
    private static final int[] EDGES = {-1, 3, 16, 255, 256, 1000, 1001, Integer.MIN_VALUE, Integer.MAX_VALUE};

    private long seed = 20261115;

    public static void main(String[] args) {
        Due due = new Due();
        SweepTest sweep = new SweepTest();
        for (int k = 0; k < OBJECTS; k++) {
            sweep.oneObject(due);
        }
        sweep.longestRun(due);
        due.end();
    }

    private int below(int n) {
        seed = seed * 6364136223846793005L + 1442695040888963407L;
        return (int) ((seed >>> 33) % n);
    }

    private int number(int usual) {
        return below(12) == 0 ? EDGES[below(EDGES.length)] : below(usual);
    }

    private int instruction() {
        int i = below(3) == 0 ? below(20) : below(256) - 16;
        return Code.word(below(20) == 0 ? below(16) : 1 + below(11), below(8), below(8), below(8), i);
    }

    private void oneObject(Due due) {
        EnclaveWarden x = new EnclaveWarden(below(1000));
        for (int p = 0; p < 48; p++) {
            x.poke(p, instruction());
        }
        for (int k = 48; k < CALLS; k++) {
            oneCall(x);
        }
        oneState(due, x);
    }

    private void oneCall(EnclaveWarden x) {
        switch (below(12)) {
            case 0:
                x.poke(number(256), instruction());
                break;
            case 1:
                x.give(number(8), number(256));
                break;
            case 2:
                x.boot(number(48));
                break;
            case 3:
                x.period(number(9));
                break;
            case 4:
            case 5:
                x.run(number(12));
                break;
            case 6:
                x.call(Code.CREATE, 8 + number(8), 1 << below(3), 0);
                break;
            case 7:
                x.call(Code.THREAD, number(3), 128 + number(128), 0);
                break;
            default:
                x.call(number(13), number(3), number(16) % 10, number(16));
                break;
        }
    }

    private void oneState(Due due, EnclaveWarden x) {
        int runningThreads = 0;
        for (int e = 0; e < 3; e++) {
            for (int t = 0; t < 2; t++) {
                int state = x.thread(e, t);
                runningThreads += state == 2 ? 1 : 0;
                due.yes("RUNNING is who runs", state == 2 == (x.running() == 2 * e + t));
                due.yes("an ABSENT enclave has no thread", x.enclave(e) != 0 || state == 0);
                due.yes("a SEALED enclave has a thread", x.enclave(e) < 2 || x.thread(e, 0) != 0);
                due.is("r0 of a thread", x.kept(e, t, 0), 0);
            }
            due.yes("an ABSENT enclave has no measure", x.enclave(e) != 0 || x.measure(e) == 0);
        }
        due.is("threads that run", runningThreads, x.running() == -1 ? 0 : 1);
        due.is("r0", x.register(0), 0);
        regions(due, x);
    }

    private void regions(Due due, EnclaveWarden x) {
        int[] counts = new int[8];
        for (int r = 0; r < 16; r++) {
            counts[x.region(r)]++;
        }
        for (int e = 0; e < 3; e++) {
            int block = counts[2 + e];
            due.yes("a block of " + block, x.enclave(e) == 0 ? block == 0 : block == 1 || block == 2 || block == 4);
            due.yes("shared regions", counts[5 + e] <= (x.enclave(e) == 0 ? 0 : 2));
        }
        for (int r = 0; r < 16; r++) {
            int p = 16 * r + below(16);
            int kind = x.region(r);
            boolean may = kind == 1 || kind >= 5;
            due.is("peek", x.peek(p), may ? x.bare(p) : 0);
            due.yes("FREE words are 0", kind != 0 || x.bare(p) == 0);
        }
    }

    private void longestRun(Due due) {
        EnclaveWarden x = new EnclaveWarden(1);
        Code.sealed(x, 8, Code.call(Code.VOUCH), Code.ifEqual(0, 0, -2));
        x.period(2);
        Code.poke(x, 0, Code.set(1, 0), Code.call(Code.ENTER), Code.set(1, 0), Code.call(Code.RESUME), Code.ifEqual(0, 0, -3));
        for (int k = 0; k < 480; k++) {
            due.is("a thousand steps", x.run(1000), 1000);
        }
        due.is("tick", x.tick(), 480000);
    }
}

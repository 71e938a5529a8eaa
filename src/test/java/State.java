import java.util.ArrayList;
import java.util.List;

/** All that a machine tells of itself, a line for each of its 354 answers. */
final class State {
    private State() {
    }

    static List<String> of(EnclaveWarden x) {
        List<String> lines = new ArrayList<>();
        system(x, lines);
        enclaves(x, lines);
        for (int r = 0; r < 16; r++) {
            lines.add("region " + r + " is " + x.region(r));
        }
        for (int p = 0; p < 256; p++) {
            lines.add("bare " + p + " is " + x.bare(p));
        }
        return lines;
    }

    private static void system(EnclaveWarden x, List<String> lines) {
        for (int k = 1; k < 8; k++) {
            lines.add("register " + k + " is " + x.register(k));
        }
        lines.add("pc is " + x.pc());
        lines.add("halted is " + x.halted());
        lines.add("tick is " + x.tick());
        lines.add("running is " + x.running());
        for (int k = 0; k < 5; k++) {
            lines.add("exit " + k + " is " + x.exit(k));
        }
    }

    private static void enclaves(EnclaveWarden x, List<String> lines) {
        for (int e = 0; e < 3; e++) {
            lines.add("enclave " + e + " is " + x.enclave(e));
            lines.add("measure " + e + " is " + x.measure(e));
            for (int t = 0; t < 2; t++) {
                lines.add("thread " + e + ", " + t + " is " + x.thread(e, t));
                for (int k = 0; k < 9; k++) {
                    lines.add("kept " + e + ", " + t + ", " + k + " is " + x.kept(e, t, k));
                }
            }
        }
    }
}

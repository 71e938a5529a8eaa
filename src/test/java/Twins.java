import java.util.ArrayList;
import java.util.List;
import java.util.function.Consumer;

/** Machines with the same past: what a call changes shows as a difference between one that made it and one that did not. */
final class Twins {
    private Twins() {
    }

    static EnclaveWarden machine(Consumer<EnclaveWarden> past) {
        EnclaveWarden x = new EnclaveWarden(Scene.SECRET);
        past.accept(x);
        return x;
    }

    /** The call changes nothing. */
    static void unchanged(Due due, String what, Consumer<EnclaveWarden> past, Consumer<EnclaveWarden> call) {
        alike(due, what, past, call, x -> { });
    }

    /** The two calls change the same. */
    static void alike(Due due, String what, Consumer<EnclaveWarden> past, Consumer<EnclaveWarden> one, Consumer<EnclaveWarden> other) {
        due.same(what, State.of(machine(past.andThen(one))), State.of(machine(past.andThen(other))));
        due.same(what + ", later", later(machine(past.andThen(one))), later(machine(past.andThen(other))));
    }

    /** Of all that a machine tells the call changes these answers and no others. */
    static void changes(Due due, String what, Consumer<EnclaveWarden> past, Consumer<EnclaveWarden> call, List<String> names) {
        List<String> before = State.of(machine(past));
        List<String> after = State.of(machine(past.andThen(call)));
        List<String> changed = new ArrayList<>();
        for (int k = 0; k < before.size(); k++) {
            if (!before.get(k).equals(after.get(k))) {
                changed.add(before.get(k).substring(0, before.get(k).indexOf(" is ")));
            }
        }
        due.same(what + " changes " + changed, changed, names);
    }

    // PERIOD, the secret, the LOADs that are left and the entries of the threads show in what comes later alone.
    private static List<String> later(EnclaveWarden x) {
        List<String> told = new ArrayList<>();
        told.add("the secret is the same: " + x.vouch(1, 2, Code.mac(Scene.SECRET, 1, 2)));
        told.add("steps of who runs: " + x.run(3 * Scene.PERIOD));
        for (int e = 0; e < 3; e++) {
            laterOf(x, e, told);
        }
        told.addAll(State.of(x));
        return told;
    }

    private static void laterOf(EnclaveWarden x, int e, List<String> told) {
        int[] firstRegions = {8, 10, 12};
        for (int k = 0; k < 9; k++) {
            told.add("LOAD " + k + " into " + e + " is " + x.call(Code.LOAD, e, firstRegions[e], 7));
        }
        told.add("SEAL of " + e + " is " + x.call(Code.SEAL, e, 0, 0));
        for (int t = 0; t < 2; t++) {
            told.add("ENTER of " + e + ", " + t + " is " + x.call(Code.ENTER, e, t, 0) + " at " + x.kept(e, t, 8));
            told.add("steps: " + x.run(2 * Scene.PERIOD));
        }
    }
}

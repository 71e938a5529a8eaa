/**
 * A small machine whose system lends memory to enclaves, and the monitor that keeps them apart.
 * The words in capitals in the comments are the terms of the document.
 */
public final class EnclaveWarden {
    public static final int NONE = -1;
    public static final int BAD = -2;
    public static final int STATE = -3;
    public static final int TAKEN = -4;
    public static final int FULL = -5;
    public static final int BUSY = -6;

    private static final int ADDRESSES = 256;
    private static final int REGIONS = 16;
    private static final int REGION_WORDS = 16;
    private static final int ENCLAVES = 3;
    private static final int THREADS = 2;
    private static final int REGISTERS = 8;
    private static final int PC_OF_KEPT = 8;
    private static final int FIRST_OWN_REGIONS = 8;
    private static final int MOST_LOADS = 8;
    private static final int MOST_SHARED = 2;
    private static final int MOST_STEPS = 1000;

    // Kinds of regions, as region() tells them; the enclave's number is added to the last two.
    private static final int FREE = 0;
    private static final int OWN = 1;
    private static final int PRIVATE = 2;
    private static final int SHARED = 5;

    // States of enclaves, as enclave() tells them.
    private static final int ABSENT = 0;
    private static final int BUILDING = 1;
    private static final int SEALED = 2;
    private static final int STOPPED = 3;

    // States of threads, as thread() tells them.
    private static final int MISSING = 0;
    private static final int READY = 1;
    private static final int RUNNING = 2;
    private static final int SAVED = 3;

    // Who runs, if it is no thread, as running() tells it.
    private static final int SYSTEM = -1;

    // Kinds of EXITs; the last two are the numbers of the FAULTs too.
    private static final int BY_CALL = 1;
    private static final int BY_INTERRUPT = 2;
    private static final int NO_SUCH_PLACE = 3;
    private static final int NO_INSTRUCTION = 4;

    private static final int OP_SET = 1;
    private static final int OP_ADD_NUMBER = 2;
    private static final int OP_ADD = 3;
    private static final int OP_SUBTRACT = 4;
    private static final int OP_MULTIPLY = 5;
    private static final int OP_XOR = 6;
    private static final int OP_READ = 7;
    private static final int OP_WRITE = 8;
    private static final int OP_BRANCH_EQUAL = 9;
    private static final int OP_BRANCH_LESS = 10;
    private static final int OP_CALL = 11;

    private static final int CALL_CREATE = 1;
    private static final int CALL_LOAD = 2;
    private static final int CALL_THREAD = 3;
    private static final int CALL_SEAL = 4;
    private static final int CALL_SHARE = 5;
    private static final int CALL_ENTER = 6;
    private static final int CALL_RESUME = 7;
    private static final int CALL_STOP = 8;
    private static final int CALL_DESTROY = 9;
    private static final int CALL_CLAIM = 10;
    private static final int CALL_YIELD = 11;
    private static final int CALL_EXIT = 16;
    private static final int CALL_VOUCH = 17;
    private static final int CALL_KEY = 18;
    private static final int CALL_CHECK = 19;

    private static final int MIX_FACTOR = 1390208809;

    /** What the system and every thread has of its own: registers and a PC. */
    private static final class Core {
        private final int[] registers;
        private int pc;

        private Core() {
            registers = new int[REGISTERS];
            pc = 0;
        }

        private int get(int k) {
            return k >= 0 && k < REGISTERS ? registers[k] : 0;
        }

        // Register 0 is never written, so that it stays 0.
        private void put(int k, int v) {
            if (k > 0 && k < REGISTERS) {
                registers[k] = v;
            }
        }

        private void start(int entry, int argument) {
            for (int k = 0; k < REGISTERS; k++) {
                put(k, 0);
            }
            put(1, argument);
            pc = entry;
        }
    }

    private static final class EnclaveThread {
        private final Core core;
        private int state;
        private int entry;

        private EnclaveThread() {
            core = new Core();
            state = MISSING;
            entry = 0;
        }
    }

    /** An enclave without its block: the kinds of the regions tell which ones are its own. */
    private static final class Enclave {
        private final EnclaveThread[] threads;
        private int state;
        private int measure;
        private int loads;

        private Enclave() {
            threads = new EnclaveThread[THREADS];
            for (int t = 0; t < THREADS; t++) {
                threads[t] = new EnclaveThread();
            }
            become(ABSENT);
        }

        // Nothing of an earlier enclave with the same number may show in a later one.
        private void become(int newState) {
            state = newState;
            measure = 0;
            loads = 0;
            for (int t = 0; t < THREADS; t++) {
                threads[t].state = MISSING;
            }
        }

        private void add(int x) {
            measure = mix(measure, x);
        }

        private int threadCount() {
            int count = 0;
            for (int t = 0; t < THREADS; t++) {
                if (threads[t].state != MISSING) {
                    count++;
                }
            }
            return count;
        }
    }

    private final int secret;
    private final int[] memory;
    private final int[] kinds;
    private final Enclave[] enclaves;
    private final Core system;
    // Numbered as exit() does: how many, then enclave, kind, value and TICK of the latest one.
    private final int[] exits;
    private boolean halted;
    private int running;
    private int period;
    private int tick;

    public EnclaveWarden(int secret) {
        this.secret = secret;
        memory = new int[ADDRESSES];
        kinds = new int[REGIONS];
        for (int r = 0; r < REGIONS; r++) {
            kinds[r] = r < FIRST_OWN_REGIONS ? OWN : FREE;
        }
        enclaves = new Enclave[ENCLAVES];
        for (int e = 0; e < ENCLAVES; e++) {
            enclaves[e] = new Enclave();
        }
        system = new Core();
        exits = new int[5];
        halted = false;
        running = SYSTEM;
        period = 0;
        tick = 0;
    }

    public boolean poke(int p, int w) {
        if (!systemMayUse(p)) {
            return false;
        }
        memory[p] = w;
        return true;
    }

    public int peek(int p) {
        return systemMayUse(p) ? memory[p] : 0;
    }

    public int bare(int p) {
        return isAddress(p) ? memory[p] : 0;
    }

    public boolean give(int k, int v) {
        if (k < 1 || k >= REGISTERS || running != SYSTEM) {
            return false;
        }
        system.put(k, v);
        return true;
    }

    public int register(int k) {
        return system.get(k);
    }

    public int pc() {
        return system.pc;
    }

    public boolean boot(int address) {
        if (running != SYSTEM) {
            return false;
        }
        system.pc = address;
        halted = false;
        return true;
    }

    public boolean halted() {
        return halted;
    }

    public int call(int f, int a, int b, int c) {
        return running == SYSTEM ? systemCall(f, a, b, c) : BUSY;
    }

    public int run(int n) {
        if (n < 0 || n > MOST_STEPS) {
            return 0;
        }
        for (int made = 0; made < n; made++) {
            if (halted && running == SYSTEM) {
                return made;
            }
            step();
        }
        return n;
    }

    public void period(int n) {
        period = n;
    }

    public int tick() {
        return tick;
    }

    public int running() {
        return running;
    }

    public int region(int r) {
        return isRegion(r) ? kinds[r] : NONE;
    }

    public int enclave(int e) {
        return isEnclave(e) ? enclaves[e].state : NONE;
    }

    public int thread(int e, int t) {
        return isEnclave(e) && isThread(t) ? enclaves[e].threads[t].state : 0;
    }

    public int kept(int e, int t, int k) {
        if (!isEnclave(e) || !isThread(t)) {
            return 0;
        }
        EnclaveThread kept = enclaves[e].threads[t];
        if (kept.state != RUNNING && kept.state != SAVED) {
            return 0;
        }
        return k == PC_OF_KEPT ? kept.core.pc : kept.core.get(k);
    }

    public int measure(int e) {
        return isEnclave(e) ? enclaves[e].measure : 0;
    }

    public boolean vouch(int m, int d, int mac) {
        return macOf(m, d) == mac;
    }

    public int exit(int k) {
        return k >= 0 && k < exits.length ? exits[k] : 0;
    }

    private static boolean isAddress(int p) {
        return p >= 0 && p < ADDRESSES;
    }

    private static boolean isRegion(int r) {
        return r >= 0 && r < REGIONS;
    }

    private static boolean isEnclave(int e) {
        return e >= 0 && e < ENCLAVES;
    }

    private static boolean isThread(int t) {
        return t >= 0 && t < THREADS;
    }

    private static int mix(int h, int w) {
        int t = (h ^ w) * MIX_FACTOR;
        return t ^ (t >>> 15);
    }

    private int macOf(int m, int d) {
        return mix(mix(mix(secret, m), d), secret);
    }

    private boolean systemMayUse(int p) {
        if (!isAddress(p)) {
            return false;
        }
        int kind = kinds[p / REGION_WORDS];
        return kind == OWN || kind >= SHARED;
    }

    private boolean enclaveMayUse(int e, int p) {
        if (!isAddress(p)) {
            return false;
        }
        int kind = kinds[p / REGION_WORDS];
        return kind == PRIVATE + e || kind == SHARED + e;
    }

    private boolean runnerMayUse(int p) {
        return running == SYSTEM ? systemMayUse(p) : enclaveMayUse(running / THREADS, p);
    }

    private EnclaveThread runningThread() {
        return enclaves[running / THREADS].threads[running % THREADS];
    }

    private void step() {
        tick++;
        if (running != SYSTEM && period > 0 && tick % period == 0) {
            leave(SAVED, BY_INTERRUPT, 0);
            return;
        }
        Core core = running == SYSTEM ? system : runningThread().core;
        if (!runnerMayUse(core.pc)) {
            fault(NO_SUCH_PLACE);
            return;
        }
        int word = memory[core.pc];
        if ((word & 15) == OP_CALL) {
            obeyCall(core, word >> 16);
        } else {
            obey(core, word);
        }
    }

    private void obey(Core core, int word) {
        int op = word & 15;
        int a = word >> 4 & 7;
        int rb = core.get(word >> 7 & 7);
        int rc = core.get(word >> 10 & 7);
        int i = word >> 16;
        if (op < OP_SET || op > OP_BRANCH_LESS) {
            fault(NO_INSTRUCTION);
            return;
        }
        if ((op == OP_READ || op == OP_WRITE) && !runnerMayUse(rb + i)) {
            fault(NO_SUCH_PLACE);
            return;
        }
        core.pc++;
        switch (op) {
            case OP_SET:
                core.put(a, i);
                break;
            case OP_ADD_NUMBER:
                core.put(a, rb + i);
                break;
            case OP_ADD:
                core.put(a, rb + rc);
                break;
            case OP_SUBTRACT:
                core.put(a, rb - rc);
                break;
            case OP_MULTIPLY:
                core.put(a, rb * rc);
                break;
            case OP_XOR:
                core.put(a, rb ^ rc);
                break;
            case OP_READ:
                core.put(a, memory[rb + i]);
                break;
            case OP_WRITE:
                memory[rb + i] = core.get(a);
                break;
            case OP_BRANCH_EQUAL:
                branch(core, core.get(a) == rb, i);
                break;
            default:
                branch(core, core.get(a) < rb, i);
                break;
        }
    }

    private static void branch(Core core, boolean taken, int distance) {
        if (taken) {
            core.pc += distance;
        }
    }

    private void obeyCall(Core core, int number) {
        int a = core.get(1);
        int b = core.get(2);
        int c = core.get(3);
        int caller = running;
        // Before the call: when it enters a thread, the system's PC has to stand behind it already.
        core.pc++;
        int answer = caller == SYSTEM ? systemCall(number, a, b, c) : enclaveCall(number, a, b, c);
        // A call that hands the machine over has no answer: r1 may hold what the other side was told.
        if (running == caller) {
            core.put(1, answer);
        }
    }

    private void fault(int kind) {
        if (running == SYSTEM) {
            halted = true;
        } else {
            leave(READY, kind, 0);
        }
    }

    private void leave(int threadState, int kind, int value) {
        runningThread().state = threadState;
        exits[0]++;
        exits[1] = running / THREADS;
        exits[2] = kind;
        exits[3] = value;
        exits[4] = tick;
        running = SYSTEM;
        system.put(1, kind);
        system.put(2, value);
    }

    private int enclaveCall(int number, int a, int b, int c) {
        int measure = enclaves[running / THREADS].measure;
        switch (number) {
            case CALL_EXIT:
                leave(READY, BY_CALL, a);
                return 0;
            case CALL_VOUCH:
                return macOf(measure, a);
            case CALL_KEY:
                return mix(mix(secret, measure), CALL_KEY);
            case CALL_CHECK:
                return macOf(a, b) == c ? 1 : 0;
            default:
                return NONE;
        }
    }

    private int systemCall(int number, int a, int b, int c) {
        switch (number) {
            case CALL_CREATE:
                return create(a, b);
            case CALL_LOAD:
                return load(a, b, c);
            case CALL_THREAD:
                return addThread(a, b);
            case CALL_SEAL:
                return seal(a);
            case CALL_SHARE:
                return share(a, b);
            case CALL_ENTER:
                return enter(a, b, c);
            case CALL_RESUME:
                return resume(a, b);
            case CALL_STOP:
                return stop(a);
            case CALL_DESTROY:
                return destroy(a);
            case CALL_CLAIM:
                return claim(a);
            case CALL_YIELD:
                return giveUp(a);
            default:
                return NONE;
        }
    }

    private int create(int first, int size) {
        if (!isRegion(first) || size != 1 && size != 2 && size != 4 || first % size != 0) {
            return BAD;
        }
        if (!allFree(first, size)) {
            return TAKEN;
        }
        int e = leastAbsent();
        if (e == ENCLAVES) {
            return FULL;
        }
        for (int k = 0; k < size; k++) {
            kinds[first + k] = PRIVATE + e;
        }
        Enclave made = enclaves[e];
        made.become(BUILDING);
        made.add(CALL_CREATE);
        made.add(first);
        made.add(size);
        return e;
    }

    // A multiple of the size leaves room for the whole block: no region past the last is asked for.
    private boolean allFree(int first, int size) {
        for (int k = 0; k < size; k++) {
            if (kinds[first + k] != FREE) {
                return false;
            }
        }
        return true;
    }

    private int leastAbsent() {
        for (int e = 0; e < ENCLAVES; e++) {
            if (enclaves[e].state == ABSENT) {
                return e;
            }
        }
        return ENCLAVES;
    }

    private int load(int e, int to, int from) {
        if (!isEnclave(e) || !isRegion(to) || !isRegion(from)) {
            return BAD;
        }
        Enclave built = enclaves[e];
        if (built.state != BUILDING) {
            return STATE;
        }
        if (kinds[to] != PRIVATE + e || kinds[from] != OWN) {
            return TAKEN;
        }
        if (built.loads >= MOST_LOADS) {
            return FULL;
        }
        built.loads++;
        built.add(CALL_LOAD);
        built.add(to);
        for (int k = 0; k < REGION_WORDS; k++) {
            int word = memory[from * REGION_WORDS + k];
            memory[to * REGION_WORDS + k] = word;
            built.add(word);
        }
        return 0;
    }

    private int addThread(int e, int entry) {
        if (!isEnclave(e) || !isAddress(entry)) {
            return BAD;
        }
        Enclave built = enclaves[e];
        if (built.state != BUILDING) {
            return STATE;
        }
        if (kinds[entry / REGION_WORDS] != PRIVATE + e) {
            return TAKEN;
        }
        int t = built.threadCount();
        if (t >= THREADS) {
            return FULL;
        }
        built.threads[t].state = READY;
        built.threads[t].entry = entry;
        built.add(CALL_THREAD);
        built.add(entry);
        return t;
    }

    private int seal(int e) {
        if (!isEnclave(e)) {
            return BAD;
        }
        Enclave built = enclaves[e];
        if (built.state != BUILDING || built.threadCount() == 0) {
            return STATE;
        }
        built.state = SEALED;
        built.add(CALL_SEAL);
        return 0;
    }

    private int share(int e, int r) {
        if (!isEnclave(e) || !isRegion(r)) {
            return BAD;
        }
        if (enclaves[e].state == ABSENT) {
            return STATE;
        }
        if (kinds[r] != OWN) {
            return TAKEN;
        }
        if (sharedWith(e) >= MOST_SHARED) {
            return FULL;
        }
        kinds[r] = SHARED + e;
        return 0;
    }

    private int sharedWith(int e) {
        int count = 0;
        for (int r = 0; r < REGIONS; r++) {
            if (kinds[r] == SHARED + e) {
                count++;
            }
        }
        return count;
    }

    private int enter(int e, int t, int argument) {
        int refusal = refusalToStart(e, t, READY);
        if (refusal == 0) {
            EnclaveThread entered = enclaves[e].threads[t];
            entered.core.start(entered.entry, argument);
            handOver(e, t);
        }
        return refusal;
    }

    private int resume(int e, int t) {
        int refusal = refusalToStart(e, t, SAVED);
        if (refusal == 0) {
            handOver(e, t);
        }
        return refusal;
    }

    private int refusalToStart(int e, int t, int neededState) {
        if (!isEnclave(e) || !isThread(t)) {
            return BAD;
        }
        Enclave started = enclaves[e];
        return started.state == SEALED && started.threads[t].state == neededState ? 0 : STATE;
    }

    private void handOver(int e, int t) {
        enclaves[e].threads[t].state = RUNNING;
        running = e * THREADS + t;
    }

    private int stop(int e) {
        if (!isEnclave(e)) {
            return BAD;
        }
        if (enclaves[e].state != SEALED) {
            return STATE;
        }
        enclaves[e].state = STOPPED;
        return 0;
    }

    private int destroy(int e) {
        if (!isEnclave(e)) {
            return BAD;
        }
        int state = enclaves[e].state;
        if (state == ABSENT || state == SEALED) {
            return STATE;
        }
        for (int r = 0; r < REGIONS; r++) {
            if (kinds[r] == PRIVATE + e) {
                free(r);
            } else if (kinds[r] == SHARED + e) {
                kinds[r] = OWN;
            }
        }
        enclaves[e].become(ABSENT);
        return 0;
    }

    private int claim(int r) {
        if (!isRegion(r)) {
            return BAD;
        }
        if (kinds[r] != FREE) {
            return TAKEN;
        }
        kinds[r] = OWN;
        return 0;
    }

    private int giveUp(int r) {
        if (!isRegion(r)) {
            return BAD;
        }
        if (kinds[r] != OWN) {
            return TAKEN;
        }
        free(r);
        return 0;
    }

    private void free(int r) {
        for (int k = 0; k < REGION_WORDS; k++) {
            memory[r * REGION_WORDS + k] = 0;
        }
        kinds[r] = FREE;
    }
}

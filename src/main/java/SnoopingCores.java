/** Processors with snooping caches over one memory and one bus, as ../shared/DOC.md promises. */
public final class SnoopingCores {
    private static final int MOST_CPUS = 4;
    private static final int MOST_SLOTS = 8;
    private static final int MOST_WIDTH = 4;
    private static final int MOST_MEMORY = 64;
    private static final int MOST_CODE = 32;
    private static final int REGISTERS = 4;

    private static final int NONE = -1;

    private static final int INVALID = 0;
    private static final int SHARED = 1;
    private static final int EXCLUSIVE = 2;
    private static final int OWNED = 3;
    private static final int MODIFIED = 4;

    private static final int RUNS = 0;
    private static final int WAITS = 1;
    private static final int HALTED = 2;
    private static final int TRAPPED = 3;

    private static final int NO_REQUEST = 0;
    private static final int READ = 1;
    private static final int OWN = 2;

    private static final int FREE = 0;
    private static final int REQUEST = 1;
    private static final int WRITE_BACK = 2;
    private static final int SNOOP = 3;
    private static final int SUPPLY = 4;

    private static final int HALT = 0;
    private static final int SET = 1;
    private static final int ADD = 2;
    private static final int SUBTRACT = 3;
    private static final int MULTIPLY = 4;
    private static final int ADD_NUMBER = 5;
    private static final int OWN_NUMBER = 6;
    private static final int GO_IF_ZERO = 7;
    private static final int GO = 8;
    private static final int LOAD = 9;
    private static final int STORE = 10;
    private static final int SWAP = 11;

    private final Memory mainMemory;
    private final Core[] cores;
    private final Bus bus;
    private boolean stepped = false;

    public SnoopingCores(int cpus, int slots, int width, int memory, int code) {
        int slotCount = limited(slots, 1, MOST_SLOTS);
        int lineWidth = limited(width, 1, MOST_WIDTH);
        int codeSize = limited(code, 1, MOST_CODE);
        mainMemory = new Memory(lineWidth, limited(memory, lineWidth, MOST_MEMORY));
        cores = new Core[limited(cpus, 1, MOST_CPUS)];
        for (int i = 0; i < cores.length; i++) {
            cores[i] = new Core(i, slotCount, codeSize, mainMemory);
        }
        bus = new Bus(cores, mainMemory);
    }

    public boolean load(int cpu, int place, int word) {
        if (stepped || !hasCore(cpu) || !within(place, cores[cpu].code.length)) {
            return false;
        }
        cores[cpu].code[place] = word;
        return true;
    }

    public boolean poke(int address, int word) {
        if (stepped || !mainMemory.has(address)) {
            return false;
        }
        mainMemory.words[address] = word;
        return true;
    }

    public int step(int cpu) {
        if (!hasCore(cpu)) {
            return NONE;
        }
        stepped = true;
        Core core = cores[cpu];
        core.goOn();
        switch (core.status) {
            case WAITS:
                return 2;
            case HALTED:
                return 3;
            case TRAPPED:
                return 4;
            default:
                return 1;
        }
    }

    public int bus() {
        return bus.doNextPhase();
    }

    public int evict(int cpu, int slot) {
        if (!hasSlot(cpu, slot)) {
            return NONE;
        }
        Slot emptied = cores[cpu].slots[slot];
        if (bus.needs(cpu, slot)) {
            return 2;
        }
        if (emptied.state == INVALID) {
            return 0;
        }
        mainMemory.giveUp(emptied);
        return 1;
    }

    public int register(int cpu, int k) {
        if (!hasCore(cpu) || !within(k, REGISTERS)) {
            return 0;
        }
        return cores[cpu].registers[k];
    }

    public int cpu(int cpu, int what) {
        if (!hasCore(cpu)) {
            return NONE;
        }
        Core core = cores[cpu];
        switch (what) {
            case 0:
                return core.place;
            case 1:
                return core.status;
            case 2:
                return core.done;
            case 3:
                return core.request;
            case 4:
                return core.requestLine;
            default:
                return NONE;
        }
    }

    public int slot(int cpu, int slot, int what) {
        if (!hasSlot(cpu, slot) || !within(what, 2 + mainMemory.width)) {
            return NONE;
        }
        Slot seen = cores[cpu].slots[slot];
        switch (what) {
            case 0:
                return seen.state;
            case 1:
                return seen.line;
            default:
                return seen.state == INVALID ? 0 : seen.words[what - 2];
        }
    }

    public int peek(int address) {
        if (!mainMemory.has(address)) {
            return 0;
        }
        int line = mainMemory.lineOf(address);
        for (int i = 0; i < cores.length; i++) {
            Slot slot = cores[i].slotFor(line);
            if (slot.holds(line) && slot.isNewerThanMemory()) {
                return slot.words[mainMemory.offsetOf(address)];
            }
        }
        return mainMemory.words[address];
    }

    public int memory(int address) {
        return mainMemory.has(address) ? mainMemory.words[address] : 0;
    }

    public int state(int what) {
        switch (what) {
            case 0:
                return bus.phase;
            case 1:
                return bus.asker;
            case 2:
                return bus.request;
            case 3:
                return bus.line;
            default:
                return within(what - 4, SUPPLY) ? bus.phasesDone[what - 4] : NONE;
        }
    }

    private boolean hasCore(int number) {
        return within(number, cores.length);
    }

    private boolean hasSlot(int number, int index) {
        return hasCore(number) && within(index, cores[number].slots.length);
    }

    private static boolean within(int index, int size) {
        return index >= 0 && index < size;
    }

    private static int limited(int number, int least, int most) {
        return Math.max(least, Math.min(most, number));
    }

    /** The memory, which alone knows how its words make lines. */
    private static final class Memory {
        final int width;
        final int[] words;

        Memory(int width, int size) {
            this.width = width;
            this.words = new int[size - size % width];
        }

        boolean has(int address) {
            return within(address, words.length);
        }

        int lineOf(int address) {
            return address / width;
        }

        int offsetOf(int address) {
            return address % width;
        }

        void readLine(int line, int[] target) {
            System.arraycopy(words, line * width, target, 0, width);
        }

        /** Empties a slot; a line that only the slot knows in its newest form is saved first. */
        void giveUp(Slot slot) {
            if (slot.isNewerThanMemory()) {
                System.arraycopy(slot.words, 0, words, slot.line * width, width);
            }
            slot.state = INVALID;
            slot.line = NONE;
        }
    }

    /** One place of a cache. */
    private static final class Slot {
        final int[] words;
        int state = INVALID;
        int line = NONE;

        Slot(int width) {
            words = new int[width];
        }

        boolean holds(int wanted) {
            return state != INVALID && line == wanted;
        }

        boolean isNewerThanMemory() {
            return state == OWNED || state == MODIFIED;
        }

        boolean maySetWords() {
            return state == EXCLUSIVE || state == MODIFIED;
        }

        void setWord(int offset, int word) {
            words[offset] = word;
            state = MODIFIED;
        }

        void take(int newLine, int[] newWords) {
            line = newLine;
            System.arraycopy(newWords, 0, words, 0, words.length);
        }

        void letOthersRead() {
            if (state == MODIFIED) {
                state = OWNED;
            } else if (state == EXCLUSIVE) {
                state = SHARED;
            }
        }
    }

    /** One processor with its code and its cache. */
    private static final class Core {
        final int number;
        final Memory mainMemory;
        final int[] code;
        final int[] registers = new int[REGISTERS];
        final Slot[] slots;
        int place = 0;
        int status = RUNS;
        int done = 0;
        int request = NO_REQUEST;
        int requestLine = NONE;

        Core(int number, int slotCount, int codeSize, Memory mainMemory) {
            this.number = number;
            this.mainMemory = mainMemory;
            this.code = new int[codeSize];
            this.slots = new Slot[slotCount];
            for (int i = 0; i < slotCount; i++) {
                slots[i] = new Slot(mainMemory.width);
            }
        }

        int indexFor(int line) {
            return line % slots.length;
        }

        Slot slotFor(int line) {
            return slots[indexFor(line)];
        }

        void goOn() {
            if (status != RUNS) {
                return;
            }
            if (within(place, code.length)) {
                tryInstruction(code[place]);
            } else {
                status = TRAPPED;
            }
        }

        private void tryInstruction(int word) {
            int a = registers[fieldA(word)];
            int b = registers[fieldB(word)];
            int c = registers[fieldC(word)];
            int n = fieldN(word);
            switch (operation(word)) {
                case HALT:
                    status = HALTED;
                    finish(place + 1);
                    break;
                case SET:
                    answer(word, n);
                    break;
                case ADD:
                    answer(word, b + c);
                    break;
                case SUBTRACT:
                    answer(word, b - c);
                    break;
                case MULTIPLY:
                    answer(word, b * c);
                    break;
                case ADD_NUMBER:
                    answer(word, b + n);
                    break;
                case OWN_NUMBER:
                    answer(word, number);
                    break;
                case GO_IF_ZERO:
                    finish(a == 0 ? n : place + 1);
                    break;
                case GO:
                    finish(n);
                    break;
                case LOAD:
                case STORE:
                case SWAP:
                    tryAccess(word, b + n);
                    break;
                default:
                    status = TRAPPED;
                    break;
            }
        }

        private void tryAccess(int word, int address) {
            if (!mainMemory.has(address)) {
                status = TRAPPED;
                return;
            }
            int line = mainMemory.lineOf(address);
            Slot slot = slotFor(line);
            boolean onlyReads = operation(word) == LOAD;
            if (slot.holds(line) && (onlyReads || slot.maySetWords())) {
                access(word, slot, mainMemory.offsetOf(address));
            } else {
                ask(onlyReads ? READ : OWN, line);
            }
        }

        private void access(int word, Slot slot, int offset) {
            int a = registers[fieldA(word)];
            int found = slot.words[offset];
            switch (operation(word)) {
                case LOAD:
                    answer(word, found);
                    break;
                case STORE:
                    slot.setWord(offset, a);
                    finish(place + 1);
                    break;
                default:
                    boolean swaps = found == registers[fieldC(word)];
                    // A SWAP that finds another word makes the line MODIFIED all the same.
                    slot.setWord(offset, swaps ? a : found);
                    answer(word, swaps ? 1 : 0);
                    break;
            }
        }

        private void ask(int kind, int line) {
            status = WAITS;
            request = kind;
            requestLine = line;
        }

        void forgetRequest() {
            request = NO_REQUEST;
            requestLine = NONE;
        }

        private void answer(int word, int result) {
            registers[fieldA(word)] = result;
            finish(place + 1);
        }

        private void finish(int next) {
            place = next;
            done++;
        }

        private static int operation(int word) {
            return word & 15;
        }

        private static int fieldA(int word) {
            return word >> 4 & 3;
        }

        private static int fieldB(int word) {
            return word >> 6 & 3;
        }

        private static int fieldC(int word) {
            return word >> 8 & 3;
        }

        private static int fieldN(int word) {
            return word >> 10;
        }
    }

    /** The bus with the transaction that goes on, if there is one. */
    private static final class Bus {
        final Core[] cores;
        final Memory mainMemory;
        final int[] phasesDone = new int[SUPPLY];
        final int[] kept;
        boolean anotherHadIt = false;
        int phase = FREE;
        int asker = NONE;
        int request = NO_REQUEST;
        int line = NONE;

        Bus(Core[] cores, Memory mainMemory) {
            this.cores = cores;
            this.mainMemory = mainMemory;
            this.kept = new int[mainMemory.width];
        }

        /** Whether the transaction would go wrong if this slot of that core were emptied now. */
        boolean needs(int number, int index) {
            if (phase == FREE) {
                return false;
            }
            Core core = cores[number];
            return core.slots[index].holds(line)
                || number == asker && index == core.indexFor(line);
        }

        int doNextPhase() {
            int next = phase == FREE ? lowestWithRequest() : asker;
            if (!within(next, cores.length)) {
                return FREE;
            }
            Core core = cores[next];
            int now = phaseAfter(phase, core);
            phase = now;
            phasesDone[now - 1]++;
            switch (now) {
                case REQUEST:
                    begin(core);
                    break;
                case WRITE_BACK:
                    mainMemory.giveUp(core.slotFor(line));
                    break;
                case SNOOP:
                    snoop();
                    break;
                default:
                    supply(core);
                    end();
                    break;
            }
            return now;
        }

        private int lowestWithRequest() {
            for (int i = 0; i < cores.length; i++) {
                if (cores[i].request != NO_REQUEST) {
                    return i;
                }
            }
            return NONE;
        }

        private int phaseAfter(int latest, Core core) {
            switch (latest) {
                case FREE:
                    return REQUEST;
                case REQUEST:
                    return mustWriteBack(core.slotFor(line)) ? WRITE_BACK : SNOOP;
                case WRITE_BACK:
                    return SNOOP;
                default:
                    return SUPPLY;
            }
        }

        private boolean mustWriteBack(Slot slot) {
            return slot.isNewerThanMemory() && slot.line != line;
        }

        private void begin(Core core) {
            asker = core.number;
            request = core.request;
            line = core.requestLine;
            core.forgetRequest();
        }

        private void snoop() {
            mainMemory.readLine(line, kept);
            anotherHadIt = false;
            for (int i = 0; i < cores.length; i++) {
                Slot slot = cores[i].slotFor(line);
                if (i != asker && slot.holds(line)) {
                    lookOn(slot);
                }
            }
        }

        private void lookOn(Slot slot) {
            anotherHadIt = true;
            if (slot.isNewerThanMemory()) {
                System.arraycopy(slot.words, 0, kept, 0, kept.length);
            }
            if (request == READ) {
                slot.letOthersRead();
            } else {
                mainMemory.giveUp(slot);
            }
        }

        private void supply(Core core) {
            Slot slot = core.slotFor(line);
            // A core that asked to OWN a line it still holds may know it newer than what was kept.
            if (!slot.holds(line)) {
                slot.take(line, kept);
            }
            if (request == OWN) {
                slot.state = MODIFIED;
            } else {
                slot.state = anotherHadIt ? SHARED : EXCLUSIVE;
            }
            core.status = RUNS;
        }

        private void end() {
            phase = FREE;
            asker = NONE;
            request = NO_REQUEST;
            line = NONE;
        }
    }
}

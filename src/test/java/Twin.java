import java.util.Arrays;

/**
 * The document told a second time, for the tests alone and in another form than the class: a CPU has no slots
 * but, for each line of the memory, the state in which it holds it; what a slot holds is found from that.
 */
final class Twin {
    private final int cpus;
    private final int slots;
    private final int width;
    private final int[] memory;
    private final int[][] code;
    private final int[][] register;
    private final int[] place;
    private final int[] status;
    private final int[] did;
    private final int[] wants;
    private final int[] wantsLine;
    private final int[][] held;
    private final int[][] copy;
    private final int[] phases = new int[5];
    private int[] kept = {};
    private boolean anotherHadIt = false;
    private int phase = 0;
    private int who = -1;
    private int kind = 0;
    private int line = -1;
    private boolean stepped = false;

    Twin(int cpus, int slots, int width, int memory, int code) {
        this.cpus = Math.min(Math.max(cpus, 1), 4);
        this.slots = Math.min(Math.max(slots, 1), 8);
        this.width = Math.min(Math.max(width, 1), 4);
        int lines = Math.min(Math.max(memory, this.width), 64) / this.width;
        this.memory = new int[lines * this.width];
        this.code = new int[this.cpus][Math.min(Math.max(code, 1), 32)];
        this.register = new int[this.cpus][4];
        this.place = new int[this.cpus];
        this.status = new int[this.cpus];
        this.did = new int[this.cpus];
        this.wants = new int[this.cpus];
        this.wantsLine = new int[this.cpus];
        Arrays.fill(wantsLine, -1);
        this.held = new int[this.cpus][lines];
        this.copy = new int[this.cpus][this.memory.length];
    }

    boolean load(int cpu, int at, int word) {
        if (stepped || noCpu(cpu) || at < 0 || at >= code[cpu].length) {
            return false;
        }
        code[cpu][at] = word;
        return true;
    }

    boolean poke(int address, int word) {
        if (stepped || noAddress(address)) {
            return false;
        }
        memory[address] = word;
        return true;
    }

    int step(int cpu) {
        if (noCpu(cpu)) {
            return -1;
        }
        stepped = true;
        if (status[cpu] == 0) {
            goOn(cpu);
        }
        return status[cpu] + 1;
    }

    private void goOn(int cpu) {
        if (place[cpu] < 0 || place[cpu] >= code[cpu].length) {
            status[cpu] = 3;
            return;
        }
        int word = code[cpu][place[cpu]];
        int operation = Math.floorMod(word, 16);
        int address = register[cpu][Math.floorMod(word >> 6, 4)] + Math.floorDiv(word, 1024);
        if (operation > 11 || operation >= 9 && noAddress(address)) {
            status[cpu] = 3;
        } else if (operation >= 9 && !canDo(operation, held[cpu][address / width])) {
            status[cpu] = 1;
            wants[cpu] = operation == 9 ? 1 : 2;
            wantsLine[cpu] = address / width;
        } else {
            did[cpu]++;
            place[cpu] = operation == 8 || operation == 7 && a(cpu, word) == 0 ? word >> 10 : place[cpu] + 1;
            status[cpu] = operation == 0 ? 2 : 0;
            change(cpu, operation, word, address);
        }
    }

    private static boolean canDo(int operation, int state) {
        return operation == 9 ? state != 0 : state == 2 || state == 4;
    }

    private int a(int cpu, int word) {
        return register[cpu][Math.floorMod(word >> 4, 4)];
    }

    private void change(int cpu, int operation, int word, int address) {
        int a = a(cpu, word);
        int b = register[cpu][Math.floorMod(word >> 6, 4)];
        int c = register[cpu][Math.floorMod(word >> 8, 4)];
        int found = operation >= 9 ? copy[cpu][address] : 0;
        if (operation == 10 || operation == 11 && found == c) {
            copy[cpu][address] = a;
        }
        if (operation >= 10) {
            held[cpu][address / width] = 4;
        }
        int[] results = {a, word >> 10, b + c, b - c, b * c, b + (word >> 10), cpu, a, a, found, a,
            found == c ? 1 : 0};
        register[cpu][Math.floorMod(word >> 4, 4)] = results[operation];
    }

    int bus() {
        if (phase == 0 && lowestThatWants() < 0) {
            return 0;
        }
        int next = nextPhase();
        phases[next]++;
        phase = next == 4 ? 0 : next;
        if (next == 1) {
            request(lowestThatWants());
        } else if (next == 2) {
            lose(who, lineIn(who, line % slots));
        } else if (next == 3) {
            snoop();
        } else {
            supply();
        }
        return next;
    }

    private int lowestThatWants() {
        for (int cpu = 0; cpu < cpus; cpu++) {
            if (wants[cpu] != 0) {
                return cpu;
            }
        }
        return -1;
    }

    private int nextPhase() {
        if (phase != 1) {
            return phase == 0 ? 1 : phase + 1;
        }
        int there = lineIn(who, line % slots);
        return there >= 0 && there != line && held[who][there] >= 3 ? 2 : 3;
    }

    private void request(int cpu) {
        who = cpu;
        kind = wants[cpu];
        line = wantsLine[cpu];
        wants[cpu] = 0;
        wantsLine[cpu] = -1;
    }

    private void snoop() {
        int from = line * width;
        anotherHadIt = false;
        kept = Arrays.copyOfRange(memory, from, from + width);
        for (int cpu = 0; cpu < cpus; cpu++) {
            int state = cpu == who ? 0 : held[cpu][line];
            if (state == 0) {
                continue;
            }
            anotherHadIt = true;
            if (state >= 3) {
                kept = Arrays.copyOfRange(copy[cpu], from, from + width);
            }
            if (kind == 2) {
                lose(cpu, line);
            } else {
                held[cpu][line] = state >= 3 ? 3 : 1;
            }
        }
    }

    private void supply() {
        if (held[who][line] == 0) {
            int there = lineIn(who, line % slots);
            if (there >= 0) {
                held[who][there] = 0;
            }
            System.arraycopy(kept, 0, copy[who], line * width, width);
        }
        held[who][line] = kind == 2 ? 4 : anotherHadIt ? 1 : 2;
        status[who] = 0;
        who = -1;
        kind = 0;
        line = -1;
    }

    /** The CPU holds the line no more; its words come into the memory if they were OWNED or MODIFIED. */
    private void lose(int cpu, int lost) {
        if (held[cpu][lost] >= 3) {
            System.arraycopy(copy[cpu], lost * width, memory, lost * width, width);
        }
        held[cpu][lost] = 0;
    }

    int evict(int cpu, int slot) {
        if (noSlot(cpu, slot)) {
            return -1;
        }
        int there = lineIn(cpu, slot);
        if (phase != 0 && (cpu == who && slot == line % slots || there == line)) {
            return 2;
        }
        if (there < 0) {
            return 0;
        }
        lose(cpu, there);
        return 1;
    }

    private int lineIn(int cpu, int slot) {
        for (int n = slot; n < held[cpu].length; n += slots) {
            if (held[cpu][n] != 0) {
                return n;
            }
        }
        return -1;
    }

    int register(int cpu, int k) {
        return noCpu(cpu) || k < 0 || k > 3 ? 0 : register[cpu][k];
    }

    int cpu(int cpu, int what) {
        if (noCpu(cpu) || what < 0 || what > 4) {
            return -1;
        }
        return new int[] {place[cpu], status[cpu], did[cpu], wants[cpu], wantsLine[cpu]}[what];
    }

    int slot(int cpu, int slot, int what) {
        if (noSlot(cpu, slot) || what < 0 || what > width + 1) {
            return -1;
        }
        int there = lineIn(cpu, slot);
        if (what == 1) {
            return there;
        }
        if (there < 0) {
            return 0;
        }
        return what == 0 ? held[cpu][there] : copy[cpu][there * width + what - 2];
    }

    int peek(int address) {
        for (int cpu = 0; cpu < cpus && !noAddress(address); cpu++) {
            if (held[cpu][address / width] >= 3) {
                return copy[cpu][address];
            }
        }
        return memory(address);
    }

    int memory(int address) {
        return noAddress(address) ? 0 : memory[address];
    }

    int state(int what) {
        if (what < 0 || what > 7) {
            return -1;
        }
        return new int[] {phase, who, kind, line, phases[1], phases[2], phases[3], phases[4]}[what];
    }

    private boolean noCpu(int cpu) {
        return cpu < 0 || cpu >= cpus;
    }

    private boolean noSlot(int cpu, int slot) {
        return noCpu(cpu) || slot < 0 || slot >= slots;
    }

    private boolean noAddress(int address) {
        return address < 0 || address >= memory.length;
    }

    /** All that later answers can depend on, but for what only counts up. */
    String key() {
        StringBuilder key = new StringBuilder();
        key.append(phase).append(' ').append(who).append(' ').append(kind).append(' ').append(line).append(' ');
        key.append(phase == 3 ? Arrays.toString(kept) + anotherHadIt : "").append(stepped);
        key.append(Arrays.toString(memory)).append(Arrays.toString(place)).append(Arrays.toString(status));
        key.append(Arrays.toString(wants)).append(Arrays.toString(wantsLine));
        for (int cpu = 0; cpu < cpus; cpu++) {
            key.append(Arrays.toString(register[cpu])).append(Arrays.toString(held[cpu]));
            for (int a = 0; a < memory.length; a++) {
                key.append(held[cpu][a / width] == 0 ? "-" : copy[cpu][a] + ",");
            }
        }
        return key.toString();
    }
}

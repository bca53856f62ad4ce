/** A SnoopingCores with what the tests do to it again and again. */
final class Rig {
    static final int INVALID = 0;
    static final int SHARED = 1;
    static final int EXCLUSIVE = 2;
    static final int OWNED = 3;
    static final int MODIFIED = 4;

    final SnoopingCores cores;

    Rig(int cpus, int slots, int width, int memory) {
        this(cpus, slots, width, memory, 32);
    }

    Rig(int cpus, int slots, int width, int memory, int code) {
        cores = new SnoopingCores(cpus, slots, width, memory, code);
    }

    /** One CPU with these registers, whose next instruction, at place 4, is this one; 8 words of memory. */
    static Rig ready(int instruction, int r0, int r1, int r2, int r3) {
        Rig rig = new Rig(1, 1, 4, 8);
        int[] registers = {r0, r1, r2, r3};
        for (int k = 0; k < 4; k++) {
            rig.cores.poke(k, registers[k]);
            rig.cores.load(0, k, Words.load(k, 3, k));
        }
        rig.cores.load(0, 4, instruction);
        return rig.done(0, 4);
    }

    /** Puts a program into a CPU's code, from place 0 on. */
    Rig code(int cpu, int... words) {
        for (int i = 0; i < words.length; i++) {
            if (!cores.load(cpu, i, words[i])) {
                throw new IllegalStateException("load refused");
            }
        }
        return this;
    }

    /** Makes word a of the memory 100 + a, for every a. */
    Rig numbered() {
        for (int a = 0; a < 64 && cores.poke(a, 100 + a); a++) {
            continue;
        }
        return this;
    }

    /** Does the CPU's next instructions, with all that the bus must do for them. */
    Rig done(int cpu, int instructions) {
        int goal = cores.cpu(cpu, 2) + instructions;
        for (int i = 0; i < 100 && cores.cpu(cpu, 2) < goal; i++) {
            if (cores.step(cpu) == 2) {
                finishBus();
            }
        }
        if (cores.cpu(cpu, 2) != goal) {
            throw new IllegalStateException("the instructions are not done");
        }
        return this;
    }

    void finishBus() {
        for (int i = 0; i < 100 && cores.bus() != 0; i++) {
            continue;
        }
    }

    int stateOf(int cpu, int slot) {
        return cores.slot(cpu, slot, 0);
    }

    int lineOf(int cpu, int slot) {
        return cores.slot(cpu, slot, 1);
    }

    /**
     * All that the first two CPUs, their first two slots, the first words of the memory and the bus tell of
     * themselves: few enough calls to do it several times within the 512 that the document promises.
     */
    String everything() {
        StringBuilder all = new StringBuilder();
        for (int cpu = 0; cpu < 2; cpu++) {
            for (int k = 0; k < 5; k++) {
                all.append(cores.cpu(cpu, k)).append(' ').append(cores.register(cpu, k)).append(' ');
            }
            for (int what = 0; what < 4; what++) {
                all.append(cores.slot(cpu, 0, what)).append(' ').append(cores.slot(cpu, 1, what)).append(' ');
            }
        }
        for (int a = 0; a < 8; a++) {
            all.append(cores.memory(a)).append(' ').append(cores.peek(a)).append(' ');
            all.append(cores.state(a)).append(' ');
        }
        return all.toString();
    }
}

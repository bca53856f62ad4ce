/** A SnoopingCores with what the tests do to it again and again. */
final class Rig {
    static final int INVALID = 0;
    static final int SHARED = 1;
    static final int EXCLUSIVE = 2;
    static final int OWNED = 3;
    static final int MODIFIED = 4;

    final SnoopingCores cores;

    Rig(int cpus, int slots, int width, int memory) {
        cores = new SnoopingCores(cpus, slots, width, memory, 32);
    }

    /** Puts a program into a CPU's code, from place 0 on. */
    Rig code(int cpu, int... words) {
        for (int i = 0; i < words.length; i++) {
            if (!cores.load(cpu, i, words[i])) {
                throw new IllegalStateException("load refused");
            }
        }
        return this;
    }

    /** Makes word a of the memory 100 + a, for every a. */
    Rig numbered() {
        for (int a = 0; a < 64 && cores.poke(a, 100 + a); a++) {
            continue;
        }
        return this;
    }

    /** Does the CPU's next instructions, with all that the bus must do for them. */
    Rig done(int cpu, int instructions) {
        int goal = cores.cpu(cpu, 2) + instructions;
        for (int i = 0; i < 100 && cores.cpu(cpu, 2) < goal; i++) {
            if (cores.step(cpu) == 2) {
                finishBus();
            }
        }
        if (cores.cpu(cpu, 2) != goal) {
            throw new IllegalStateException("the instructions are not done");
        }
        return this;
    }

    void finishBus() {
        for (int i = 0; i < 100 && cores.bus() != 0; i++) {
            continue;
        }
    }

    int stateOf(int cpu, int slot) {
        return cores.slot(cpu, slot, 0);
    }

    int lineOf(int cpu, int slot) {
        return cores.slot(cpu, slot, 1);
    }
}

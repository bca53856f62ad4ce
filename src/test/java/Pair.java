/** An object of the class and its twin, which are asked the same; every answer of the one is due to the other. */
final class Pair {
    private final Check check;
    private final SnoopingCores cores;
    private final Twin twin;
    private String when;

    /** The numbers are cpus, slots, width, memory and code. */
    Pair(Check check, String when, int... numbers) {
        this.check = check;
        this.when = when;
        cores = new SnoopingCores(numbers[0], numbers[1], numbers[2], numbers[3], numbers[4]);
        twin = new Twin(numbers[0], numbers[1], numbers[2], numbers[3], numbers[4]);
    }

    void at(String time) {
        when = time;
    }

    String key() {
        return twin.key();
    }

    boolean load(int cpu, int place, int word) {
        boolean due = twin.load(cpu, place, word);
        same("load", cores.load(cpu, place, word) ? 1 : 0, due ? 1 : 0, cpu, place, word);
        return due;
    }

    boolean poke(int address, int word) {
        boolean due = twin.poke(address, word);
        same("poke", cores.poke(address, word) ? 1 : 0, due ? 1 : 0, address, word);
        return due;
    }

    int step(int cpu) {
        return same("step", cores.step(cpu), twin.step(cpu), cpu);
    }

    int bus() {
        return same("bus", cores.bus(), twin.bus());
    }

    int evict(int cpu, int slot) {
        return same("evict", cores.evict(cpu, slot), twin.evict(cpu, slot), cpu, slot);
    }

    int register(int cpu, int k) {
        return same("register", cores.register(cpu, k), twin.register(cpu, k), cpu, k);
    }

    int cpu(int cpu, int what) {
        return same("cpu", cores.cpu(cpu, what), twin.cpu(cpu, what), cpu, what);
    }

    int slot(int cpu, int slot, int what) {
        return same("slot", cores.slot(cpu, slot, what), twin.slot(cpu, slot, what), cpu, slot, what);
    }

    int peek(int address) {
        return same("peek", cores.peek(address), twin.peek(address), address);
    }

    int memory(int address) {
        return same("memory", cores.memory(address), twin.memory(address), address);
    }

    int state(int what) {
        return same("state", cores.state(what), twin.state(what), what);
    }

    private int same(String call, int got, int due, int... numbers) {
        // The text is made only when it is needed: most of the tests' time would go into it.
        if (got == due) {
            check.due(call, got, due);
        } else {
            StringBuilder text = new StringBuilder(when).append(": ").append(call).append('(');
            for (int i = 0; i < numbers.length; i++) {
                text.append(i == 0 ? "" : ", ").append(numbers[i]);
            }
            check.due(text.append(')').toString(), got, due);
        }
        return due;
    }
}

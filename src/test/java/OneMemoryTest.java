import java.util.Random;

/** The document's first sentence: all of it is as if there were one memory, whose words change one at a time. */
public final class OneMemoryTest {
    private static final Check CHECK = new Check();
    private static final int CODE = 16;
    // With what is called before and after them, so many rounds stay within 512 calls of an object.
    private static final int MOST_ROUNDS = 120;

    private final Random random;
    private final int cpus;
    private final int slots;
    private final int width;
    private final SnoopingCores cores;
    private final int[] memory;
    private final int[][] code;
    private final int[][] registers;

    private OneMemoryTest(long seed) {
        random = new Random(seed);
        cpus = 1 + random.nextInt(4);
        slots = 1 + random.nextInt(4);
        width = 1 + random.nextInt(4);
        int lines = 1 + random.nextInt(Math.min(6, 64 / width));
        cores = new SnoopingCores(cpus, slots, width, lines * width, CODE);
        memory = new int[lines * width];
        code = new int[cpus][CODE];
        registers = new int[cpus][4];
    }

    public static void main(String[] args) {
        for (long seed = 1; seed <= 50000 && CHECK.allAsDue(); seed++) {
            OneMemoryTest run = new OneMemoryTest(seed);
            run.prepare();
            int rounds = run.random.nextInt(MOST_ROUNDS + 1);
            for (int i = 0; i < rounds; i++) {
                run.doOne();
            }
            String when = "seed " + seed + " after " + rounds + " rounds";
            run.compare(when);
            run.cachesAgree(when);
        }
        CHECK.end();
    }

    private void prepare() {
        for (int a = 0; a < memory.length; a++) {
            memory[a] = random.nextInt(3);
            cores.poke(a, memory[a]);
        }
        for (int cpu = 0; cpu < cpus; cpu++) {
            for (int place = 0; place < CODE; place++) {
                code[cpu][place] = place == CODE - 1 ? Words.go(0) : anyInstruction();
                cores.load(cpu, place, code[cpu][place]);
            }
        }
    }

    /** Register 3 stays 0, so that most addresses are in the memory. */
    private int anyInstruction() {
        int a = random.nextInt(3);
        int address = random.nextInt(memory.length);
        switch (random.nextInt(6)) {
            case 0:
                return Words.set(a, random.nextInt(3));
            case 1:
                return Words.addNumber(a, random.nextInt(4), random.nextInt(3) - 1);
            case 2:
            case 3:
                return Words.load(a, 3, address);
            case 4:
                return Words.store(a, 3, address);
            default:
                return Words.swap(a, 3, random.nextInt(4), address);
        }
    }

    private void doOne() {
        int cpu = random.nextInt(cpus);
        int choice = random.nextInt(8);
        if (choice < 4) {
            int place = cores.cpu(cpu, 0);
            if (cores.step(cpu) == 1) {
                doPlainly(cpu, code[cpu][place]);
            }
        } else if (choice < 7) {
            cores.bus();
        } else {
            cores.evict(cpu, random.nextInt(slots));
        }
    }

    /** The instruction on one memory, with neither caches nor a bus. */
    private void doPlainly(int cpu, int word) {
        int[] r = registers[cpu];
        int a = word >> 4 & 3;
        int b = word >> 6 & 3;
        int c = word >> 8 & 3;
        int n = word >> 10;
        switch (word & 15) {
            case 1:
                r[a] = n;
                break;
            case 5:
                r[a] = r[b] + n;
                break;
            case 9:
                r[a] = memory[r[b] + n];
                break;
            case 10:
                memory[r[b] + n] = r[a];
                break;
            case 11:
                boolean found = memory[r[b] + n] == r[c];
                memory[r[b] + n] = found ? r[a] : memory[r[b] + n];
                r[a] = found ? 1 : 0;
                break;
            default:
                break;
        }
    }

    private void compare(String when) {
        for (int cpu = 0; cpu < cpus; cpu++) {
            for (int k = 0; k < 4; k++) {
                CHECK.due(when + ": register(" + cpu + ", " + k + ")", cores.register(cpu, k), registers[cpu][k]);
            }
        }
        for (int a = 0; a < memory.length; a++) {
            CHECK.due(when + ": peek(" + a + ")", cores.peek(a), memory[a]);
        }
    }

    private void cachesAgree(String when) {
        for (int line = 0; line < memory.length / width; line++) {
            int holders = 0;
            int owners = 0;
            int alone = 0;
            for (int cpu = 0; cpu < cpus; cpu++) {
                if (cores.slot(cpu, line % slots, 1) != line) {
                    continue;
                }
                int state = cores.slot(cpu, line % slots, 0);
                holders++;
                owners += state == Rig.OWNED || state == Rig.MODIFIED ? 1 : 0;
                alone += state == Rig.EXCLUSIVE || state == Rig.MODIFIED ? 1 : 0;
                for (int k = 0; k < width; k++) {
                    String what = when + ": CPU " + cpu + ", line " + line + ", word " + k;
                    CHECK.due(what, cores.slot(cpu, line % slots, 2 + k), memory[line * width + k]);
                }
            }
            CHECK.due(when + ": line " + line + " has one owner at most", owners <= 1, true);
            CHECK.due(when + ": line " + line + " is alone", alone == 0 || holders == 1, true);
        }
    }
}

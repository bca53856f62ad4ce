import java.util.ArrayDeque;
import java.util.HashSet;

/**
 * Small systems in every state that they can come to: from each, every call that changes something is done once,
 * and all that the system tells of itself then is held against the twin.
 */
public final class EveryStateTest {
    private static final Check CHECK = new Check();

    private final String name;
    private final int[] numbers;
    private final int[][] programs;

    /** The numbers are cpus, slots, width, memory and code; a CPU without a program of its own has the last. */
    private EveryStateTest(String name, int[] numbers, int[]... programs) {
        this.name = name;
        this.numbers = numbers;
        this.programs = programs;
    }

    public static void main(String[] args) {
        new EveryStateTest("one line", new int[] {3, 1, 1, 1, 4},
            new int[] {Words.load(3, 2, 0), Words.ownNumber(1), Words.store(1, 2, 0), Words.swap(1, 2, 3, 0)})
            .goThrough();
        new EveryStateTest("two lines of one slot", new int[] {2, 1, 2, 4, 6},
            new int[] {Words.ownNumber(1), Words.load(0, 3, 0), Words.store(1, 3, 2), Words.load(0, 3, 3),
                Words.store(1, 3, 1), Words.go(0)}).goThrough();
        new EveryStateTest("a SWAP of each", new int[] {3, 2, 1, 2, 3},
            new int[] {Words.load(2, 3, 0), Words.swap(1, 3, 1, 0), Words.go(0)},
            new int[] {Words.ownNumber(1), Words.swap(1, 3, 2, 0), Words.go(0)},
            new int[] {Words.load(2, 3, 1), Words.store(2, 3, 0), Words.HALT}).goThrough();
        CHECK.end();
    }

    private void goThrough() {
        HashSet<String> seen = new HashSet<>();
        ArrayDeque<String> open = new ArrayDeque<>();
        open.add("");
        while (!open.isEmpty() && CHECK.allAsDue()) {
            String path = open.remove();
            for (char call = 'a'; call < 'a' + callsInAll(); call++) {
                Pair pair = after(path + call);
                lookAtAll(pair);
                if (seen.add(pair.key())) {
                    open.add(path + call);
                }
            }
        }
        System.out.println(name + ": " + seen.size() + " states");
    }

    private int callsInAll() {
        return 1 + numbers[0] + numbers[0] * numbers[1];
    }

    private Pair after(String path) {
        Pair pair = new Pair(CHECK, name + ", " + path, numbers);
        for (int cpu = 0; cpu < numbers[0]; cpu++) {
            int[] program = programs[Math.min(cpu, programs.length - 1)];
            for (int place = 0; place < program.length; place++) {
                pair.load(cpu, place, program[place]);
            }
        }
        for (int i = 0; i < path.length(); i++) {
            doCall(pair, path.charAt(i) - 'a');
        }
        return pair;
    }

    private void doCall(Pair pair, int call) {
        int cpus = numbers[0];
        if (call == 0) {
            pair.bus();
        } else if (call <= cpus) {
            pair.step(call - 1);
        } else {
            pair.evict((call - 1 - cpus) % cpus, (call - 1 - cpus) / cpus);
        }
    }

    private void lookAtAll(Pair pair) {
        for (int cpu = 0; cpu < numbers[0]; cpu++) {
            for (int k = 0; k < 5; k++) {
                pair.cpu(cpu, k);
                pair.register(cpu, k);
            }
            for (int slot = 0; slot < numbers[1]; slot++) {
                for (int what = 0; what < 2 + numbers[2]; what++) {
                    pair.slot(cpu, slot, what);
                }
            }
        }
        for (int what = 0; what < 8; what++) {
            pair.state(what);
        }
        for (int address = 0; address < numbers[3]; address++) {
            pair.memory(address);
            pair.peek(address);
        }
    }
}

import java.util.Random;

/** Random runs of all calls, with right and wrong numbers, each answer held against the document told twice. */
public final class TwinTest {
    private static final Check CHECK = new Check();
    private static final int RUNS = 20000;
    private static final int MOST_CALLS = 512;
    private static final int[] FAR = {Integer.MIN_VALUE, -65, -1, 8, 9, 32, 33, 64, 65, Integer.MAX_VALUE};

    private final Random random;
    private final Pair pair;
    private int calls = 0;

    private TwinTest(long seed) {
        random = new Random(seed);
        pair = new Pair(CHECK, "seed " + seed, number(1, 4), number(1, 3), number(1, 4), number(1, 24), number(4, 16));
    }

    public static void main(String[] args) {
        for (long seed = 1; seed <= RUNS && CHECK.allAsDue(); seed++) {
            TwinTest run = new TwinTest(seed);
            run.prepare();
            while (run.calls < MOST_CALLS && CHECK.allAsDue()) {
                run.calls++;
                run.pair.at("seed " + seed + ", call " + run.calls);
                run.anyCall();
            }
        }
        CHECK.end();
    }

    /** Mostly a number from the least to the most, now and then one far off or just beyond. */
    private int number(int least, int most) {
        int choice = random.nextInt(24);
        if (choice == 0) {
            return FAR[random.nextInt(FAR.length)];
        }
        return choice == 1 ? most + 1 : least + random.nextInt(most - least + 1);
    }

    private void prepare() {
        for (int cpu = 0; cpu < 4; cpu++) {
            for (int place = 0; place < 16; place++) {
                calls++;
                pair.load(cpu, place, anyWord());
            }
        }
        for (int i = 0; i < 16; i++) {
            calls++;
            pair.poke(number(0, 23), random.nextInt(3));
        }
    }

    /** Few words halt or trap, and register 3 is seldom changed, so that the CPUs go on for long. */
    private int anyWord() {
        int a = random.nextInt(16) == 0 ? 3 : random.nextInt(3);
        int b = random.nextInt(4);
        int c = random.nextInt(4);
        switch (random.nextInt(12)) {
            case 0:
                return random.nextInt(4) == 0 ? random.nextInt() : Words.go(random.nextInt(8));
            case 1:
                return Words.set(a, random.nextInt(3));
            case 2:
                return Words.word(2 + random.nextInt(5), a, b, c, random.nextInt(5) - 2);
            case 3:
                return Words.goIfZero(a, random.nextInt(16));
            case 4:
            case 5:
            case 6:
                return Words.load(a, 3, random.nextInt(12));
            case 7:
            case 8:
            case 9:
                return Words.store(a, 3, random.nextInt(12));
            default:
                return Words.swap(a, random.nextInt(8) == 0 ? b : 3, c, random.nextInt(12));
        }
    }

    private void anyCall() {
        switch (random.nextInt(24)) {
            case 0:
                pair.load(number(0, 3), number(0, 15), anyWord());
                break;
            case 1:
                pair.poke(number(0, 23), random.nextInt());
                break;
            case 2:
                pair.evict(number(0, 3), number(0, 2));
                break;
            case 3:
                pair.register(number(0, 3), number(0, 3));
                break;
            case 4:
            case 5:
                pair.cpu(number(0, 3), number(0, 4));
                break;
            case 6:
            case 7:
                pair.slot(number(0, 3), number(0, 2), number(0, 5));
                break;
            case 8:
                pair.peek(number(0, 23));
                break;
            case 9:
                pair.memory(number(0, 23));
                break;
            case 10:
                pair.state(number(0, 7));
                break;
            default:
                goOn();
                break;
        }
    }

    private void goOn() {
        if (random.nextInt(2) == 0) {
            pair.bus();
        } else {
            pair.step(number(0, 3));
        }
    }
}

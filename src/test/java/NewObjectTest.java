/** Promise 1: the numbers' limits, and how a new object stands. */
public final class NewObjectTest {
    private static final Check CHECK = new Check();

    public static void main(String[] args) {
        limits(1, 1, 1, 1, 1, new int[] {1, 1, 1, 1, 1});
        limits(4, 8, 4, 64, 32, new int[] {4, 8, 4, 64, 32});
        limits(3, 5, 3, 30, 17, new int[] {3, 5, 3, 30, 17});
        limits(0, 0, 0, 0, 0, new int[] {1, 1, 1, 1, 1});
        limits(5, 9, 5, 65, 33, new int[] {4, 8, 4, 64, 32});
        int least = Integer.MIN_VALUE;
        int most = Integer.MAX_VALUE;
        limits(least, least, least, least, least, new int[] {1, 1, 1, 1, 1});
        limits(most, most, most, most, most, new int[] {4, 8, 4, 64, 32});
        limits(2, 2, most, least, 8, new int[] {2, 2, 4, 4, 8});
        limits(2, 2, 3, 2, 8, new int[] {2, 2, 3, 3, 8});
        limits(2, 2, 3, 64, 8, new int[] {2, 2, 3, 63, 8});
        limits(2, 2, 4, 7, 8, new int[] {2, 2, 4, 4, 8});
        limits(2, 2, 4, 8, 8, new int[] {2, 2, 4, 8, 8});
        limits(2, 2, 2, 63, 8, new int[] {2, 2, 2, 62, 8});
        allIsEmpty(new SnoopingCores(4, 8, 4, 64, 32));
        codeIsHalt();
        objectsAreApart();
        CHECK.end();
    }

    /** The sizes that are due: CPUs, slots, width, memory and code. */
    private static void limits(int cpus, int slots, int width, int memory, int code, int[] due) {
        SnoopingCores x = new SnoopingCores(cpus, slots, width, memory, code);
        String made = "new(" + cpus + ", " + slots + ", " + width + ", " + memory + ", " + code + ") ";
        CHECK.due(made + "last cpu", x.cpu(due[0] - 1, 0), 0);
        CHECK.due(made + "cpu beyond", x.cpu(due[0], 0), -1);
        CHECK.due(made + "last slot", x.slot(0, due[1] - 1, 0), 0);
        CHECK.due(made + "slot beyond", x.slot(0, due[1], 0), -1);
        CHECK.due(made + "last word of a line", x.slot(0, 0, 1 + due[2]), 0);
        CHECK.due(made + "word beyond", x.slot(0, 0, 2 + due[2]), -1);
        CHECK.due(made + "last address", x.poke(due[3] - 1, 1), true);
        CHECK.due(made + "address beyond", x.poke(due[3], 1), false);
        CHECK.due(made + "last place", x.load(due[0] - 1, due[4] - 1, 1), true);
        CHECK.due(made + "place beyond", x.load(due[0] - 1, due[4], 1), false);
    }

    private static void allIsEmpty(SnoopingCores x) {
        for (int a = 0; a < 64; a++) {
            CHECK.due("memory(" + a + ")", x.memory(a), 0);
            CHECK.due("peek(" + a + ")", x.peek(a), 0);
        }
        for (int cpu = 0; cpu < 4; cpu++) {
            for (int k = 0; k < 4; k++) {
                CHECK.due("register(" + cpu + ", " + k + ")", x.register(cpu, k), 0);
                CHECK.due("cpu(" + cpu + ", " + k + ")", x.cpu(cpu, k), 0);
            }
            CHECK.due("cpu(" + cpu + ", 4)", x.cpu(cpu, 4), -1);
            for (int slot = 0; slot < 8; slot++) {
                for (int what = 0; what < 6; what++) {
                    String call = "slot(" + cpu + ", " + slot + ", " + what + ")";
                    CHECK.due(call, x.slot(cpu, slot, what), what == 1 ? -1 : 0);
                }
            }
        }
        CHECK.due("bus()", x.bus(), 0);
        int[] due = {0, -1, 0, -1, 0, 0, 0, 0};
        for (int what = 0; what < due.length; what++) {
            CHECK.due("state(" + what + ")", x.state(what), due[what]);
        }
    }

    private static void codeIsHalt() {
        SnoopingCores x = new SnoopingCores(4, 1, 1, 1, 1);
        for (int cpu = 0; cpu < 4; cpu++) {
            CHECK.due("step(" + cpu + ") in code 0", x.step(cpu), 3);
        }
    }

    private static void objectsAreApart() {
        SnoopingCores x = new SnoopingCores(1, 1, 1, 4, 4);
        SnoopingCores y = new SnoopingCores(1, 1, 1, 4, 4);
        x.poke(1, 5);
        x.step(0);
        CHECK.due("memory(1) of the other object", y.memory(1), 0);
        CHECK.due("load of the other object", y.load(0, 0, 1), true);
    }
}

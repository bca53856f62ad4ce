/** Promise 8: what a CPU tells of itself. */
public final class CpuTest {
    private static final Check CHECK = new Check();

    public static void main(String[] args) {
        fromRunningToHalted();
        trapped();
        requests();
        wrongInputs();
        CHECK.end();
    }

    /** Looks at the place, the status, the instructions, the request and its line. */
    private static void stands(String when, SnoopingCores x, int cpu, int... due) {
        for (int what = 0; what < due.length; what++) {
            CHECK.due(when + ": cpu(" + cpu + ", " + what + ")", x.cpu(cpu, what), due[what]);
        }
    }

    private static void fromRunningToHalted() {
        Rig rig = new Rig(2, 1, 2, 8);
        rig.code(0, Words.set(0, 1), Words.load(1, 0, 4), Words.go(7));
        SnoopingCores x = rig.cores;
        stands("new", x, 0, 0, 0, 0, 0, -1);
        x.step(0);
        stands("one instruction", x, 0, 1, 0, 1, 0, -1);
        x.step(0);
        stands("waiting", x, 0, 1, 1, 1, 1, 2);
        x.bus();
        stands("request taken", x, 0, 1, 1, 1, 0, -1);
        x.bus();
        stands("snooped", x, 0, 1, 1, 1, 0, -1);
        x.bus();
        stands("supplied", x, 0, 1, 0, 1, 0, -1);
        x.step(0);
        stands("loaded", x, 0, 2, 0, 2, 0, -1);
        x.step(0);
        stands("gone", x, 0, 7, 0, 3, 0, -1);
        x.step(0);
        stands("halted", x, 0, 8, 2, 4, 0, -1);
        x.step(0);
        stands("halted already", x, 0, 8, 2, 4, 0, -1);
        stands("the other CPU", x, 1, 0, 0, 0, 0, -1);
    }

    private static void trapped() {
        Rig rig = new Rig(1, 1, 1, 4).code(0, Words.set(0, 1), Words.word(12, 0, 0, 0, 0));
        rig.cores.step(0);
        rig.cores.step(0);
        stands("trapped", rig.cores, 0, 1, 3, 1, 0, -1);
        rig.cores.step(0);
        stands("trapped already", rig.cores, 0, 1, 3, 1, 0, -1);
    }

    private static void requests() {
        Rig rig = new Rig(3, 2, 2, 16);
        rig.code(0, Words.load(0, 0, 1)).code(1, Words.store(0, 0, 15)).code(2, Words.swap(0, 0, 0, 6));
        for (int cpu = 0; cpu < 3; cpu++) {
            rig.cores.step(cpu);
        }
        stands("LOAD", rig.cores, 0, 0, 1, 0, 1, 0);
        stands("STORE", rig.cores, 1, 0, 1, 0, 2, 7);
        stands("SWAP", rig.cores, 2, 0, 1, 0, 2, 3);
    }

    private static void wrongInputs() {
        SnoopingCores x = new SnoopingCores(2, 1, 1, 4, 4);
        CHECK.due("cpu(-1, 0)", x.cpu(-1, 0), -1);
        CHECK.due("cpu(2, 0)", x.cpu(2, 0), -1);
        CHECK.due("cpu(0, -1)", x.cpu(0, -1), -1);
        CHECK.due("cpu(0, 5)", x.cpu(0, 5), -1);
        CHECK.due("cpu(most, 0)", x.cpu(Integer.MAX_VALUE, 0), -1);
        CHECK.due("cpu(0, least)", x.cpu(0, Integer.MIN_VALUE), -1);
    }
}

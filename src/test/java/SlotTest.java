/** Promise 9: what a slot tells of itself. */
public final class SlotTest {
    private static final Check CHECK = new Check();

    public static void main(String[] args) {
        linesHaveTheirSlot();
        allStates();
        emptyAgain();
        wrongInputs();
        CHECK.end();
    }

    private static void stands(String when, SnoopingCores x, int cpu, int slot, int... due) {
        for (int what = 0; what < due.length; what++) {
            String call = when + ": slot(" + cpu + ", " + slot + ", " + what + ")";
            CHECK.due(call, x.slot(cpu, slot, what), due[what]);
        }
    }

    private static void linesHaveTheirSlot() {
        Rig rig = new Rig(1, 3, 4, 64).numbered();
        rig.code(0, Words.load(0, 3, 63), Words.load(0, 3, 16), Words.load(0, 3, 11));
        rig.done(0, 3);
        stands("line 15", rig.cores, 0, 0, 2, 15, 160, 161, 162, 163);
        stands("line 4", rig.cores, 0, 1, 2, 4, 116, 117, 118, 119);
        stands("line 2", rig.cores, 0, 2, 2, 2, 108, 109, 110, 111);
    }

    private static void allStates() {
        Rig rig = new Rig(2, 1, 2, 8).numbered();
        rig.code(0, Words.load(0, 3, 4), Words.set(1, -9), Words.store(1, 3, 5));
        rig.code(1, Words.load(0, 3, 4));
        stands("new", rig.cores, 0, 0, 0, -1, 0, 0);
        rig.done(0, 1);
        stands("read alone", rig.cores, 0, 0, 2, 2, 104, 105);
        rig.done(0, 2);
        stands("stored", rig.cores, 0, 0, 4, 2, 104, -9);
        rig.done(1, 1);
        stands("read by another", rig.cores, 0, 0, 3, 2, 104, -9);
        stands("read from another", rig.cores, 1, 0, 1, 2, 104, -9);
    }

    private static void emptyAgain() {
        Rig rig = new Rig(2, 1, 2, 8).numbered();
        rig.code(0, Words.load(0, 3, 4)).code(1, Words.store(3, 3, 4));
        rig.done(0, 1);
        rig.cores.evict(0, 0);
        stands("evicted", rig.cores, 0, 0, 0, -1, 0, 0);
        rig = new Rig(2, 1, 2, 8).numbered();
        rig.code(0, Words.load(0, 3, 4)).code(1, Words.store(3, 3, 4));
        rig.done(0, 1).done(1, 1);
        stands("owned by another", rig.cores, 0, 0, 0, -1, 0, 0);
    }

    private static void wrongInputs() {
        SnoopingCores x = new SnoopingCores(2, 2, 3, 12, 4);
        CHECK.due("slot(-1, 0, 0)", x.slot(-1, 0, 0), -1);
        CHECK.due("slot(2, 0, 0)", x.slot(2, 0, 0), -1);
        CHECK.due("slot(0, -1, 0)", x.slot(0, -1, 0), -1);
        CHECK.due("slot(0, 2, 0)", x.slot(0, 2, 0), -1);
        CHECK.due("slot(0, 0, -1)", x.slot(0, 0, -1), -1);
        CHECK.due("slot(0, 0, 4)", x.slot(0, 0, 4), 0);
        CHECK.due("slot(0, 0, 5)", x.slot(0, 0, 5), -1);
        CHECK.due("slot(0, 0, most)", x.slot(0, 0, Integer.MAX_VALUE), -1);
        CHECK.due("slot(0, 0, least)", x.slot(0, 0, Integer.MIN_VALUE), -1);
        CHECK.due("slot(least, most, 0)", x.slot(Integer.MIN_VALUE, Integer.MAX_VALUE, 0), -1);
    }
}

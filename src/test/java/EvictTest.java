/** Promise 6: a slot is emptied, unless the transaction that goes on needs it. */
public final class EvictTest {
    private static final Check CHECK = new Check();

    public static void main(String[] args) {
        cleanLines();
        modifiedAndOwnedLines();
        slotOfTheTransaction();
        lineOfTheTransaction();
        otherSlotsAndLines();
        requestThatIsNotTaken();
        wrongInputs();
        CHECK.end();
    }

    private static void cleanLines() {
        Rig rig = new Rig(2, 1, 1, 4).numbered().code(0, Words.load(0, 3, 2)).code(1, Words.load(0, 3, 2));
        CHECK.due("evict(0, 0), INVALID", rig.cores.evict(0, 0), 0);
        rig.done(0, 1).done(1, 1);
        CHECK.due("evict(0, 0), SHARED", rig.cores.evict(0, 0), 1);
        CHECK.due("its state", rig.stateOf(0, 0), Rig.INVALID);
        CHECK.due("its line", rig.lineOf(0, 0), -1);
        CHECK.due("the other's state", rig.stateOf(1, 0), Rig.SHARED);
        CHECK.due("memory(2)", rig.cores.memory(2), 102);
        CHECK.due("evict(0, 0) again", rig.cores.evict(0, 0), 0);

        rig = new Rig(1, 1, 1, 4).numbered().code(0, Words.load(0, 3, 2)).done(0, 1);
        CHECK.due("evict(0, 0), EXCLUSIVE", rig.cores.evict(0, 0), 1);
        CHECK.due("its state", rig.stateOf(0, 0), Rig.INVALID);
        CHECK.due("memory(2)", rig.cores.memory(2), 102);
    }

    /** Two CPUs share a line that has changed; only its owner may write it to the memory. */
    private static void modifiedAndOwnedLines() {
        Rig rig = new Rig(2, 2, 2, 16).numbered();
        rig.code(0, Words.set(1, 7), Words.store(1, 3, 6), Words.store(1, 3, 9));
        rig.code(1, Words.load(0, 3, 6));
        rig.done(0, 3).done(1, 1);
        CHECK.due("evict(0, 0), MODIFIED", rig.cores.evict(0, 0), 1);
        CHECK.due("memory(8)", rig.cores.memory(8), 108);
        CHECK.due("memory(9)", rig.cores.memory(9), 7);
        CHECK.due("its state", rig.stateOf(0, 0), Rig.INVALID);
        CHECK.due("the other slot's state", rig.stateOf(0, 1), Rig.OWNED);
        CHECK.due("evict(1, 1), SHARED", rig.cores.evict(1, 1), 1);
        CHECK.due("memory(6)", rig.cores.memory(6), 106);
        CHECK.due("evict(0, 1), OWNED", rig.cores.evict(0, 1), 1);
        CHECK.due("memory(6)", rig.cores.memory(6), 7);
        CHECK.due("memory(7)", rig.cores.memory(7), 107);
    }

    private static void slotOfTheTransaction() {
        Rig rig = new Rig(2, 2, 1, 8).numbered();
        rig.code(0, Words.load(0, 3, 2), Words.store(0, 3, 4), Words.load(0, 3, 6));
        SnoopingCores x = rig.cores;
        x.step(0);
        x.bus();
        CHECK.due("evict(0, 0), INVALID and requested", x.evict(0, 0), 2);
        x.bus();
        CHECK.due("evict(0, 0), INVALID and snooped", x.evict(0, 0), 2);
        CHECK.due("evict(0, 1), the CPU's other slot", x.evict(0, 1), 0);
        CHECK.due("evict(1, 0), another CPU's slot", x.evict(1, 0), 0);
        x.bus();
        x.step(0);
        x.step(0);
        x.bus();
        CHECK.due("evict(0, 0), with another line EXCLUSIVE", x.evict(0, 0), 2);
        CHECK.due("its line", rig.lineOf(0, 0), 2);
        rig.finishBus();
        x.step(0);
        x.step(0);
        x.bus();
        CHECK.due("evict(0, 0), with another line MODIFIED", x.evict(0, 0), 2);
        CHECK.due("memory(4), not written", x.memory(4), 104);
        CHECK.due("bus()", x.bus(), 2);
        CHECK.due("evict(0, 0), written back", x.evict(0, 0), 2);
        rig.finishBus();
        CHECK.due("evict(0, 0), supplied", x.evict(0, 0), 1);
        CHECK.due("step(0), the line is gone", x.step(0), 2);
    }

    private static void lineOfTheTransaction() {
        Rig rig = new Rig(3, 1, 1, 8).numbered();
        rig.code(0, Words.store(1, 3, 2)).code(1, Words.load(0, 3, 2), Words.store(1, 3, 2));
        rig.code(2, Words.load(0, 3, 2));
        rig.done(0, 1).done(2, 1);
        SnoopingCores x = rig.cores;
        x.step(1);
        x.bus();
        CHECK.due("evict(0, 0), OWNED", x.evict(0, 0), 2);
        CHECK.due("evict(2, 0), SHARED", x.evict(2, 0), 2);
        x.bus();
        CHECK.due("evict(0, 0), OWNED and snooped", x.evict(0, 0), 2);
        CHECK.due("evict(2, 0), SHARED and snooped", x.evict(2, 0), 2);
        CHECK.due("memory(2)", x.memory(2), 102);
        x.bus();
        x.step(1);
        x.step(1);
        x.bus();
        CHECK.due("evict(1, 0), the asker has the line", x.evict(1, 0), 2);
        CHECK.due("evict(2, 0), to be taken", x.evict(2, 0), 2);
        x.bus();
        CHECK.due("evict(2, 0), taken", x.evict(2, 0), 0);
        CHECK.due("evict(1, 0), the asker still has it", x.evict(1, 0), 2);
        x.bus();
        CHECK.due("evict(1, 0), supplied", x.evict(1, 0), 1);
    }

    private static void otherSlotsAndLines() {
        Rig rig = new Rig(2, 2, 1, 8).numbered();
        rig.code(0, Words.store(0, 3, 3), Words.load(1, 3, 2)).code(1, Words.store(1, 3, 4));
        rig.done(0, 1).done(1, 1);
        SnoopingCores x = rig.cores;
        x.step(0);
        x.bus();
        CHECK.due("evict(0, 1), the asker's other slot", x.evict(0, 1), 1);
        CHECK.due("memory(3)", x.memory(3), 0);
        CHECK.due("evict(1, 0), another line in such a slot", x.evict(1, 0), 1);
        CHECK.due("memory(4)", x.memory(4), 0);
        CHECK.due("evict(1, 0) again", x.evict(1, 0), 0);
    }

    private static void requestThatIsNotTaken() {
        Rig rig = new Rig(1, 1, 1, 8).numbered().code(0, Words.store(0, 3, 2), Words.load(0, 3, 3));
        rig.done(0, 1);
        rig.cores.step(0);
        CHECK.due("evict(0, 0), the CPU waits", rig.cores.evict(0, 0), 1);
        CHECK.due("evict(0, 0) again", rig.cores.evict(0, 0), 0);
        CHECK.due("bus()", rig.cores.bus(), 1);
        CHECK.due("evict(0, 0), requested", rig.cores.evict(0, 0), 2);
        CHECK.due("bus(), nothing to write back", rig.cores.bus(), 3);
    }

    private static void wrongInputs() {
        Rig rig = new Rig(2, 2, 1, 8).code(0, Words.load(0, 3, 2));
        int[][] wrong = {{-1, 0}, {2, 0}, {0, -1}, {0, 2}, {4, 8},
            {Integer.MAX_VALUE, 0}, {0, Integer.MIN_VALUE}};
        for (int[] pair : wrong) {
            CHECK.due("evict(" + pair[0] + ", " + pair[1] + ")", rig.cores.evict(pair[0], pair[1]), -1);
        }
        rig.cores.step(0);
        rig.cores.bus();
        CHECK.due("evict(0, 2) while a transaction goes on", rig.cores.evict(0, 2), -1);
        CHECK.due("evict(-1, 0) while a transaction goes on", rig.cores.evict(-1, 0), -1);
    }
}

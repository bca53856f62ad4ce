/** Promise 5: the bus and its phases. */
public final class BusTest {
    private static final Check CHECK = new Check();

    public static void main(String[] args) {
        nothingToDo();
        lowestCpuFirst();
        writesBackModified();
        writesBackOwned();
        dropsCleanLines();
        readFromMemory();
        readFromExclusive();
        readFromModifiedThenOwned();
        readFromShared();
        ownFromAll();
        ownFromModified();
        ownFromExclusive();
        ownWhatIsOwned();
        ownAfterTheLineWasTaken();
        ownAfterTheLineWasEvicted();
        storeBeforeTheSnoop();
        CHECK.end();
    }

    private static void phases(SnoopingCores x, int... due) {
        for (int phase : due) {
            CHECK.due("bus()", x.bus(), phase);
        }
    }

    private static void states(String when, Rig rig, int slot, int... due) {
        for (int cpu = 0; cpu < due.length; cpu++) {
            CHECK.due(when + ": state of CPU " + cpu, rig.stateOf(cpu, slot), due[cpu]);
        }
    }

    private static void nothingToDo() {
        Rig rig = new Rig(2, 1, 1, 4).code(0, Words.set(0, 1));
        phases(rig.cores, 0, 0);
        rig.done(0, 1);
        phases(rig.cores, 0);
        CHECK.due("phases REQUEST", rig.cores.state(4), 0);
    }

    private static void lowestCpuFirst() {
        Rig rig = new Rig(4, 1, 1, 4);
        for (int cpu = 0; cpu < 4; cpu++) {
            rig.code(cpu, Words.load(0, 3, cpu));
        }
        SnoopingCores x = rig.cores;
        x.step(3);
        x.step(1);
        phases(x, 1);
        CHECK.due("taken", x.state(1), 1);
        x.step(0);
        x.step(2);
        phases(x, 3);
        CHECK.due("still taken", x.state(1), 1);
        CHECK.due("the request of CPU 0 stays", x.cpu(0, 3), 1);
        phases(x, 4, 1);
        CHECK.due("taken next", x.state(1), 0);
        phases(x, 3, 4, 1);
        CHECK.due("taken then", x.state(1), 2);
        phases(x, 3, 4, 1);
        CHECK.due("taken last", x.state(1), 3);
        phases(x, 3, 4, 0);
    }

    private static void writesBackModified() {
        Rig rig = new Rig(1, 2, 3, 24).numbered();
        rig.code(0, Words.set(1, 7), Words.store(1, 3, 4), Words.load(0, 3, 10)).done(0, 2);
        SnoopingCores x = rig.cores;
        x.step(0);
        phases(x, 1);
        CHECK.due("memory(4)", x.memory(4), 104);
        CHECK.due("the line there", rig.lineOf(0, 1), 1);
        phases(x, 2);
        CHECK.due("memory(3)", x.memory(3), 103);
        CHECK.due("memory(4)", x.memory(4), 7);
        CHECK.due("memory(5)", x.memory(5), 105);
        CHECK.due("the line there", rig.lineOf(0, 1), -1);
        states("written back", rig, 1, Rig.INVALID);
        phases(x, 3, 4);
        CHECK.due("the line there", rig.lineOf(0, 1), 3);
        CHECK.due("its first word", x.slot(0, 1, 2), 109);
        CHECK.due("its last word", x.slot(0, 1, 4), 111);
    }

    private static void writesBackOwned() {
        Rig rig = new Rig(2, 1, 1, 8).numbered();
        rig.code(0, Words.set(1, 7), Words.store(1, 3, 4), Words.store(1, 3, 5));
        rig.code(1, Words.load(0, 3, 4));
        rig.done(0, 2).done(1, 1);
        states("read by another", rig, 0, Rig.OWNED, Rig.SHARED);
        rig.cores.step(0);
        phases(rig.cores, 1, 2);
        CHECK.due("memory(4)", rig.cores.memory(4), 7);
        states("written back", rig, 0, Rig.INVALID, Rig.SHARED);
        phases(rig.cores, 3, 4);
        states("supplied", rig, 0, Rig.MODIFIED, Rig.SHARED);
    }

    private static void dropsCleanLines() {
        Rig rig = new Rig(2, 1, 1, 8).numbered();
        rig.code(0, Words.load(0, 3, 4), Words.load(0, 3, 5), Words.load(0, 3, 6));
        rig.code(1, Words.load(0, 3, 5));
        rig.done(0, 1);
        rig.cores.step(0);
        phases(rig.cores, 1, 3);
        CHECK.due("the EXCLUSIVE line stays for now", rig.lineOf(0, 0), 4);
        phases(rig.cores, 4);
        CHECK.due("the line then", rig.lineOf(0, 0), 5);
        rig.done(0, 1).done(1, 1);
        states("shared", rig, 0, Rig.SHARED, Rig.SHARED);
        rig.cores.step(0);
        phases(rig.cores, 1, 3);
        CHECK.due("the SHARED line stays for now", rig.lineOf(0, 0), 5);
        phases(rig.cores, 4);
        CHECK.due("the line then", rig.lineOf(0, 0), 6);
        states("supplied", rig, 0, Rig.EXCLUSIVE, Rig.SHARED);
    }

    private static void readFromMemory() {
        Rig rig = new Rig(3, 2, 2, 16).numbered();
        rig.code(0, Words.load(0, 3, 4)).code(1, Words.load(1, 3, 9));
        rig.done(0, 1);
        rig.cores.step(1);
        phases(rig.cores, 1, 3);
        CHECK.due("status before SUPPLY", rig.cores.cpu(1, 1), 1);
        states("another line of the slot is left alone", rig, 0, Rig.EXCLUSIVE, Rig.INVALID);
        phases(rig.cores, 4);
        states("supplied", rig, 0, Rig.EXCLUSIVE, Rig.EXCLUSIVE, Rig.INVALID);
        CHECK.due("status after SUPPLY", rig.cores.cpu(1, 1), 0);
        CHECK.due("word 0", rig.cores.slot(1, 0, 2), 108);
        CHECK.due("word 1", rig.cores.slot(1, 0, 3), 109);
    }

    private static void readFromExclusive() {
        Rig rig = new Rig(2, 1, 1, 4).numbered().code(0, Words.load(0, 3, 2)).code(1, Words.load(0, 3, 2));
        rig.done(1, 1);
        rig.cores.step(0);
        phases(rig.cores, 1);
        states("requested", rig, 0, Rig.INVALID, Rig.EXCLUSIVE);
        phases(rig.cores, 3);
        states("snooped", rig, 0, Rig.INVALID, Rig.SHARED);
        phases(rig.cores, 4);
        states("supplied", rig, 0, Rig.SHARED, Rig.SHARED);
    }

    private static void readFromModifiedThenOwned() {
        Rig rig = new Rig(3, 1, 2, 4).numbered();
        rig.code(0, Words.load(0, 3, 2)).code(1, Words.set(0, 7), Words.store(0, 3, 2));
        rig.code(2, Words.load(0, 3, 3));
        rig.done(1, 2);
        rig.cores.step(0);
        phases(rig.cores, 1);
        states("requested", rig, 0, Rig.INVALID, Rig.MODIFIED, Rig.INVALID);
        phases(rig.cores, 3);
        states("snooped", rig, 0, Rig.INVALID, Rig.OWNED, Rig.INVALID);
        CHECK.due("memory(2), not written", rig.cores.memory(2), 102);
        phases(rig.cores, 4);
        states("supplied", rig, 0, Rig.SHARED, Rig.OWNED, Rig.INVALID);
        CHECK.due("the word that came", rig.cores.slot(0, 0, 2), 7);
        rig.done(2, 1);
        states("read once more", rig, 0, Rig.SHARED, Rig.OWNED, Rig.SHARED);
        CHECK.due("the word that came", rig.cores.slot(2, 0, 2), 7);
        CHECK.due("memory(2), not written", rig.cores.memory(2), 102);
    }

    private static void readFromShared() {
        Rig rig = new Rig(3, 1, 1, 4).numbered();
        for (int cpu = 0; cpu < 3; cpu++) {
            rig.code(cpu, Words.load(0, 3, 2));
        }
        rig.done(0, 1).done(1, 1);
        rig.cores.evict(0, 0);
        rig.done(2, 1);
        states("read from the last that shared", rig, 0, Rig.INVALID, Rig.SHARED, Rig.SHARED);
        rig = new Rig(2, 1, 1, 4).numbered().code(0, Words.load(0, 3, 2)).code(1, Words.load(0, 3, 2));
        rig.done(0, 1);
        rig.cores.evict(0, 0);
        rig.done(1, 1);
        states("read when no other has it any more", rig, 0, Rig.INVALID, Rig.EXCLUSIVE);
    }

    private static void ownFromAll() {
        Rig rig = new Rig(4, 1, 2, 8).numbered();
        rig.code(0, Words.set(0, 7), Words.store(0, 3, 2)).code(1, Words.load(0, 3, 2));
        rig.code(2, Words.load(0, 3, 2), Words.store(3, 3, 3)).code(3, Words.load(0, 3, 6));
        rig.done(0, 2).done(1, 1).done(2, 1).done(3, 1);
        states("before", rig, 0, Rig.OWNED, Rig.SHARED, Rig.SHARED, Rig.EXCLUSIVE);
        rig.cores.step(2);
        phases(rig.cores, 1);
        states("requested", rig, 0, Rig.OWNED, Rig.SHARED, Rig.SHARED, Rig.EXCLUSIVE);
        CHECK.due("memory(2)", rig.cores.memory(2), 102);
        phases(rig.cores, 3);
        states("snooped", rig, 0, Rig.INVALID, Rig.INVALID, Rig.SHARED, Rig.EXCLUSIVE);
        CHECK.due("memory(2)", rig.cores.memory(2), 7);
        CHECK.due("memory(3)", rig.cores.memory(3), 103);
        phases(rig.cores, 4);
        states("supplied", rig, 0, Rig.INVALID, Rig.INVALID, Rig.MODIFIED, Rig.EXCLUSIVE);
        CHECK.due("its word 0", rig.cores.slot(2, 0, 2), 7);
        CHECK.due("its word 1", rig.cores.slot(2, 0, 3), 103);
        CHECK.due("step(2)", rig.cores.step(2), 1);
        CHECK.due("its word 1 then", rig.cores.slot(2, 0, 3), 0);
    }

    private static void ownFromModified() {
        Rig rig = new Rig(2, 1, 2, 8).numbered();
        rig.code(0, Words.store(0, 3, 2)).code(1, Words.set(0, 7), Words.store(0, 3, 3));
        rig.done(1, 2);
        rig.cores.step(0);
        phases(rig.cores, 1, 3);
        states("snooped", rig, 0, Rig.INVALID, Rig.INVALID);
        CHECK.due("memory(3)", rig.cores.memory(3), 7);
        phases(rig.cores, 4);
        states("supplied", rig, 0, Rig.MODIFIED, Rig.INVALID);
        CHECK.due("its line", rig.lineOf(0, 0), 1);
        CHECK.due("its word 1", rig.cores.slot(0, 0, 3), 7);
    }

    private static void ownFromExclusive() {
        Rig rig = new Rig(2, 1, 1, 4).numbered().code(0, Words.load(0, 3, 2)).code(1, Words.swap(0, 3, 0, 2));
        rig.done(0, 1);
        rig.cores.step(1);
        phases(rig.cores, 1, 3);
        states("snooped", rig, 0, Rig.INVALID, Rig.INVALID);
        phases(rig.cores, 4);
        states("supplied", rig, 0, Rig.INVALID, Rig.MODIFIED);
        CHECK.due("its word", rig.cores.slot(1, 0, 2), 102);
    }

    /** The memory is behind then, so what was kept must not come into the slot. */
    private static void ownWhatIsOwned() {
        Rig rig = new Rig(2, 1, 2, 4).numbered();
        rig.code(0, Words.set(0, 7), Words.store(0, 3, 2), Words.store(0, 3, 3)).code(1, Words.load(0, 3, 2));
        rig.done(0, 2).done(1, 1);
        rig.cores.step(0);
        phases(rig.cores, 1, 3);
        states("snooped", rig, 0, Rig.OWNED, Rig.INVALID);
        CHECK.due("memory(2), not written", rig.cores.memory(2), 102);
        phases(rig.cores, 4);
        states("supplied", rig, 0, Rig.MODIFIED, Rig.INVALID);
        CHECK.due("its word 0", rig.cores.slot(0, 0, 2), 7);
        CHECK.due("its word 1", rig.cores.slot(0, 0, 3), 103);
        CHECK.due("memory(2), not written", rig.cores.memory(2), 102);
    }

    private static void ownAfterTheLineWasTaken() {
        Rig rig = new Rig(2, 1, 1, 4).numbered();
        rig.code(0, Words.load(0, 3, 2), Words.set(1, 7), Words.store(1, 3, 2));
        rig.code(1, Words.load(0, 3, 2), Words.set(1, 8), Words.swap(1, 3, 0, 2));
        rig.done(0, 2).done(1, 2);
        rig.cores.step(0);
        rig.cores.step(1);
        phases(rig.cores, 1, 3, 4);
        states("taken from CPU 1", rig, 0, Rig.MODIFIED, Rig.INVALID);
        CHECK.due("step(0)", rig.cores.step(0), 1);
        phases(rig.cores, 1, 3, 4, 0);
        states("taken from CPU 0", rig, 0, Rig.INVALID, Rig.MODIFIED);
        CHECK.due("the word that came", rig.cores.slot(1, 0, 2), 7);
        CHECK.due("step(1)", rig.cores.step(1), 1);
        CHECK.due("its SWAP did not find the old word", rig.cores.register(1, 1), 0);
    }

    private static void ownAfterTheLineWasEvicted() {
        Rig rig = new Rig(2, 1, 1, 4).numbered();
        rig.code(0, Words.load(0, 3, 2), Words.store(1, 3, 2)).code(1, Words.load(0, 3, 2));
        rig.done(0, 1).done(1, 1);
        rig.cores.step(0);
        CHECK.due("evict(0, 0), not yet requested", rig.cores.evict(0, 0), 1);
        phases(rig.cores, 1, 3, 4);
        states("supplied", rig, 0, Rig.MODIFIED, Rig.INVALID);
        CHECK.due("its line", rig.lineOf(0, 0), 2);
        CHECK.due("its word", rig.cores.slot(0, 0, 2), 102);
    }

    /** A CPU with the line EXCLUSIVE may store silently until the snoop; the reader must see it. */
    private static void storeBeforeTheSnoop() {
        Rig rig = new Rig(2, 1, 1, 4).numbered();
        rig.code(0, Words.load(0, 3, 2), Words.store(1, 3, 2)).code(1, Words.load(0, 3, 2));
        rig.done(0, 1);
        rig.cores.step(1);
        phases(rig.cores, 1);
        CHECK.due("step(0), between REQUEST and SNOOP", rig.cores.step(0), 1);
        phases(rig.cores, 3, 4);
        states("supplied", rig, 0, Rig.OWNED, Rig.SHARED);
        CHECK.due("the word that came", rig.cores.slot(1, 0, 2), 0);
    }
}

/** The edges that "Terms" names of the bus and its four phases. */
public final class BusEdgesTest {
    private static final int READING = Words.load(1, 3, 2);
    private static final int OWNING = Words.store(1, 3, 3);

    public static void main(String[] args) {
        Sentences sentences = new Sentences().of("Terms");
        sentences.holds("one transaction at a time", BusEdgesTest::oneAtATime);
        sentences.holds("When it is free and there are requests: 1 REQUEST", BusEdgesTest::freeWithRequests);
        sentences.holds("that of the lowest CPU is taken", BusEdgesTest::lowestFirst);
        sentences.holds("(its request is no more)", BusEdgesTest::requestIsNoMore);
        sentences.holds("the line that it is for is the transaction's", BusEdgesTest::lineOfTheRequest);
        sentences.holds("Then 2 WRITE BACK, if that CPU's slot holds another line OWNED or MODIFIED",
            BusEdgesTest::whenItWritesBack);
        sentences.holds("its words come into the memory, the slot is INVALID", BusEdgesTest::whatItWritesBack);
        sentences.holds("READ: another CPU that has the line MODIFIED or EXCLUSIVE has it OWNED or SHARED then",
            BusEdgesTest::othersAtARead);
        sentences.holds("OWN: all others that have it have it no more (INVALID)", BusEdgesTest::othersAtAnOwn);
        sentences.holds("the words of one that was OWNED or MODIFIED come into the memory",
            BusEdgesTest::memoryAtAnOwn);
        sentences.holds("from the other CPU (of the others) that had it OWNED or MODIFIED",
            BusEdgesTest::keptFromAnother);
        sentences.holds("otherwise from the memory", BusEdgesTest::keptFromTheMemory);
        sentences.holds("and whether another CPU had it", BusEdgesTest::whetherAnotherHadIt);
        sentences.holds("READ: the CPU's slot gets the line with what was kept, SHARED if another one had it, "
            + "otherwise EXCLUSIVE.", BusEdgesTest::supplyOfARead);
        sentences.holds("OWN: the slot is MODIFIED then", BusEdgesTest::supplyOfAnOwn);
        sentences.holds("if it did not hold the line, it gets it with what was kept", BusEdgesTest::ownOfItsOwnLine);
        sentences.holds("The CPU runs then, and the bus is free.", BusEdgesTest::runsThen);
        sentences.end();
    }

    private static void phases(Check check, String when, SnoopingCores x, int... due) {
        for (int phase : due) {
            check.due(when + ": bus()", x.bus(), phase);
        }
    }

    /** Four CPUs: one waits to read or to own line 1, one holds it, one may share it, one holds line 3 there. */
    private static final class Four {
        final Rig rig = new Rig(4, 1, 2, 8).numbered();
        final int asker;
        final int holder;
        final int sharer;
        final int bystander;
        final int state;
        final String name;

        Four(int asker, int state, int instruction) {
            this.asker = asker;
            this.state = state;
            holder = (asker + 1) % 4;
            sharer = (asker + 2) % 4;
            bystander = (asker + 3) % 4;
            name = "CPU " + asker + " asks CPU " + holder + " in state " + state;
            boolean stores = state == Rig.OWNED || state == Rig.MODIFIED;
            rig.code(asker, instruction).code(bystander, Words.load(0, 3, 6)).code(sharer, Words.load(0, 3, 2));
            rig.code(holder, Words.set(1, 7), stores ? Words.store(1, 3, 2) : Words.load(0, 3, 2));
            prepare();
        }

        private void prepare() {
            rig.done(bystander, 1);
            if (state != Rig.INVALID) {
                rig.done(holder, 2);
            }
            if (isShared()) {
                rig.done(sharer, 1);
            }
            rig.cores.step(asker);
            if (rig.stateOf(holder, 0) != state) {
                throw new IllegalStateException("state " + state + " was not come to");
            }
        }

        boolean isShared() {
            return state == Rig.SHARED || state == Rig.OWNED;
        }

        boolean isChanged() {
            return state == Rig.OWNED || state == Rig.MODIFIED;
        }
    }

    private interface FourTest {
        void run(Check check, Four four);
    }

    private static void forAll(Check check, int instruction, FourTest test) {
        for (int asker = 0; asker < 4; asker++) {
            for (int state = Rig.INVALID; state <= Rig.MODIFIED; state++) {
                test.run(check, new Four(asker, state, instruction));
            }
        }
    }

    private static Rig fourThatRead() {
        Rig rig = new Rig(4, 1, 1, 4);
        for (int cpu = 0; cpu < 4; cpu++) {
            rig.code(cpu, Words.load(0, 3, cpu));
        }
        return rig;
    }

    private static void oneAtATime(Check check) {
        SnoopingCores x = fourThatRead().cores;
        x.step(2);
        phases(check, "CPU 2", x, 1);
        x.step(0);
        x.step(3);
        phases(check, "CPU 2, others wait", x, 3);
        check.due("its CPU", x.state(1), 2);
        phases(check, "CPU 2, others wait", x, 4);
        check.due("CPU 0 waits still", x.cpu(0, 1), 1);
        check.due("CPU 3 waits still", x.cpu(3, 1), 1);
        check.due("REQUESTs", x.state(4), 1);
        phases(check, "CPU 0", x, 1, 3, 4);
        check.due("CPU 0 runs", x.cpu(0, 1), 0);
        check.due("CPU 3 waits still", x.cpu(3, 1), 1);
    }

    private static void freeWithRequests(Check check) {
        SnoopingCores x = fourThatRead().cores;
        phases(check, "no requests", x, 0);
        x.step(3);
        phases(check, "one request", x, 1, 3, 4, 0);
        x.step(0);
        x.step(1);
        phases(check, "two requests", x, 1, 3, 4, 1, 3, 4, 0);
    }

    private static void lowestFirst(Check check) {
        for (int first = 0; first < 4; first++) {
            for (int second = 0; second < 4; second++) {
                SnoopingCores x = fourThatRead().cores;
                x.step(first);
                x.step(second);
                phases(check, "CPUs " + first + " and " + second, x, 1);
                check.due("taken of CPUs " + first + " and " + second, x.state(1), Math.min(first, second));
            }
        }
    }

    private static void requestIsNoMore(Check check) {
        SnoopingCores x = fourThatRead().cores;
        x.step(1);
        x.step(2);
        phases(check, "CPU 1", x, 1);
        check.due("request of CPU 1", x.cpu(1, 3), 0);
        check.due("its line", x.cpu(1, 4), -1);
        check.due("request of CPU 2", x.cpu(2, 3), 1);
        check.due("its line", x.cpu(2, 4), 2);
        x.step(1);
        check.due("request of CPU 1, that waits on", x.cpu(1, 3), 0);
        phases(check, "CPU 1, then CPU 2, and no more", x, 3, 4, 1, 3, 4, 0);
    }

    private static void lineOfTheRequest(Check check) {
        for (int address : new int[] {0, 3, 4, 63}) {
            SnoopingCores x = new Rig(1, 3, 4, 64).code(0, Words.load(0, 3, address)).cores;
            x.step(0);
            phases(check, "address " + address, x, 1);
            check.due("line of address " + address, x.state(3), address / 4);
        }
    }

    private static void whenItWritesBack(Check check) {
        for (int state = Rig.INVALID; state <= Rig.MODIFIED; state++) {
            boolean changed = state == Rig.OWNED || state == Rig.MODIFIED;
            Rig another = asksWith(state, Words.store(1, 3, 4));
            phases(check, "another line in state " + state, another.cores, 1, changed ? 2 : 3);
            check.due("WRITE BACKs", another.cores.state(5), changed ? 1 : 0);
        }
        for (int state : new int[] {Rig.INVALID, Rig.SHARED, Rig.OWNED}) {
            Rig same = asksWith(state, Words.store(1, 3, 3));
            phases(check, "the same line in state " + state, same.cores, 1, 3, 4);
            check.due("WRITE BACKs", same.cores.state(5), 0);
        }
    }

    /** CPU 0, with line 1 in this state, waits for what the instruction needs. */
    private static Rig asksWith(int state, int instruction) {
        Rig rig = new Rig(2, 1, 2, 8).numbered();
        boolean stores = state == Rig.OWNED || state == Rig.MODIFIED;
        rig.code(0, Words.set(1, 7), stores ? Words.store(1, 3, 2) : Words.load(0, 3, 2), instruction);
        rig.code(1, Words.load(0, 3, 2)).done(0, 2);
        if (state == Rig.SHARED || state == Rig.OWNED) {
            rig.done(1, 1);
        }
        if (state == Rig.INVALID) {
            rig.cores.evict(0, 0);
        }
        if (rig.stateOf(0, 0) != state || rig.cores.step(0) != 2) {
            throw new IllegalStateException("state " + state + " was not come to");
        }
        return rig;
    }

    private static void whatItWritesBack(Check check) {
        for (int state : new int[] {Rig.OWNED, Rig.MODIFIED}) {
            Rig rig = asksWith(state, Words.load(0, 3, 4));
            phases(check, "state " + state, rig.cores, 1);
            check.due("memory(2) before", rig.cores.memory(2), 102);
            check.due("state before", rig.stateOf(0, 0), state);
            phases(check, "state " + state, rig.cores, 2);
            int[] due = {100, 101, 7, 103, 104, 105, 106, 107};
            for (int a = 0; a < due.length; a++) {
                check.due("memory(" + a + ") then", rig.cores.memory(a), due[a]);
            }
            check.due("state then", rig.stateOf(0, 0), Rig.INVALID);
            check.due("line then", rig.lineOf(0, 0), -1);
            check.due("state of the other", rig.stateOf(1, 0), state == Rig.OWNED ? Rig.SHARED : Rig.INVALID);
        }
    }

    private static void othersAtARead(Check check) {
        int[] then = {Rig.INVALID, Rig.SHARED, Rig.SHARED, Rig.OWNED, Rig.OWNED};
        forAll(check, READING, (c, four) -> {
            phases(c, four.name, four.rig.cores, 1);
            c.due(four.name + ", before the SNOOP", four.rig.stateOf(four.holder, 0), four.state);
            phases(c, four.name, four.rig.cores, 3);
            c.due(four.name, four.rig.stateOf(four.holder, 0), then[four.state]);
            int shared = four.isShared() ? Rig.SHARED : Rig.INVALID;
            c.due(four.name + ", the sharer", four.rig.stateOf(four.sharer, 0), shared);
            c.due(four.name + ", the bystander", four.rig.stateOf(four.bystander, 0), Rig.EXCLUSIVE);
            c.due(four.name + ", the asker", four.rig.stateOf(four.asker, 0), Rig.INVALID);
            c.due(four.name + ", memory(2)", four.rig.cores.memory(2), 102);
        });
    }

    private static void othersAtAnOwn(Check check) {
        forAll(check, OWNING, (c, four) -> {
            phases(c, four.name, four.rig.cores, 1);
            c.due(four.name + ", before the SNOOP", four.rig.stateOf(four.holder, 0), four.state);
            phases(c, four.name, four.rig.cores, 3);
            for (int cpu : new int[] {four.asker, four.holder, four.sharer}) {
                c.due(four.name + ", state of CPU " + cpu, four.rig.stateOf(cpu, 0), Rig.INVALID);
                c.due(four.name + ", line of CPU " + cpu, four.rig.lineOf(cpu, 0), -1);
            }
            c.due(four.name + ", the bystander", four.rig.stateOf(four.bystander, 0), Rig.EXCLUSIVE);
            c.due(four.name + ", the bystander's line", four.rig.lineOf(four.bystander, 0), 3);
        });
        Rig owner = asksWith(Rig.OWNED, OWNING);
        phases(check, "the asker itself has it", owner.cores, 1, 3);
        check.due("the asker's state", owner.stateOf(0, 0), Rig.OWNED);
        check.due("the other's state", owner.stateOf(1, 0), Rig.INVALID);
    }

    private static void memoryAtAnOwn(Check check) {
        forAll(check, OWNING, (c, four) -> {
            phases(c, four.name, four.rig.cores, 1);
            c.due(four.name + ", memory(2) before", four.rig.cores.memory(2), 102);
            phases(c, four.name, four.rig.cores, 3);
            c.due(four.name + ", memory(2)", four.rig.cores.memory(2), four.isChanged() ? 7 : 102);
            c.due(four.name + ", memory(3)", four.rig.cores.memory(3), 103);
        });
        Rig owner = asksWith(Rig.OWNED, OWNING);
        phases(check, "the asker itself was OWNED", owner.cores, 1, 3, 4);
        check.due("memory(2)", owner.cores.memory(2), 102);
    }

    private static void keptFromAnother(Check check) {
        for (int instruction : new int[] {READING, OWNING}) {
            forAll(check, instruction, (c, four) -> {
                phases(c, four.name, four.rig.cores, 1, 3, 4);
                c.due(four.name + ", word 0", four.rig.cores.slot(four.asker, 0, 2), four.isChanged() ? 7 : 102);
                c.due(four.name + ", word 1", four.rig.cores.slot(four.asker, 0, 3), 103);
            });
        }
    }

    /** The line was changed and came back into the memory, so that no CPU has it changed any more. */
    private static void keptFromTheMemory(Check check) {
        for (int instruction : new int[] {READING, OWNING}) {
            Rig rig = new Rig(3, 1, 2, 8).numbered();
            rig.code(0, Words.set(1, 7), Words.store(1, 3, 2)).code(1, instruction).code(2, Words.load(0, 3, 2));
            rig.done(0, 2).done(2, 1);
            rig.cores.evict(0, 0);
            check.due("the one that has it is SHARED", rig.stateOf(2, 0), Rig.SHARED);
            rig.cores.step(1);
            phases(check, "word " + instruction, rig.cores, 1, 3, 4);
            check.due("word 0", rig.cores.slot(1, 0, 2), 7);
            check.due("word 1", rig.cores.slot(1, 0, 3), 103);
        }
        Rig alone = new Rig(1, 1, 2, 8).numbered();
        alone.code(0, Words.load(0, 3, 0), Words.load(0, 3, 3), Words.store(0, 3, 5), Words.load(0, 3, 7));
        for (int line = 0; line < 4; line++) {
            alone.cores.step(0);
            alone.finishBus();
            check.due("word 0 of line " + line + ", no other CPU", alone.cores.slot(0, 0, 2), 100 + 2 * line);
            check.due("word 1 of line " + line, alone.cores.slot(0, 0, 3), 101 + 2 * line);
            alone.done(0, 1);
        }
    }

    private static void whetherAnotherHadIt(Check check) {
        forAll(check, READING, (c, four) -> {
            phases(c, four.name, four.rig.cores, 1, 3, 4);
            boolean alone = four.rig.stateOf(four.asker, 0) == Rig.EXCLUSIVE;
            c.due(four.name + ", no other had it", alone, four.state == Rig.INVALID);
        });
        Rig rig = new Rig(2, 1, 2, 8).code(0, READING).code(1, READING).done(1, 1);
        rig.cores.evict(1, 0);
        rig.done(0, 1);
        check.due("another had it, but no more", rig.stateOf(0, 0), Rig.EXCLUSIVE);
        Rig twice = new Rig(2, 1, 2, 8).code(0, READING, Words.load(1, 3, 6)).code(1, READING);
        twice.done(1, 1).done(0, 2);
        check.due("another had the line before, not this one", twice.stateOf(0, 0), Rig.EXCLUSIVE);
    }

    private static void supplyOfARead(Check check) {
        forAll(check, READING, (c, four) -> {
            phases(c, four.name, four.rig.cores, 1, 3);
            c.due(four.name + ", before the SUPPLY", four.rig.stateOf(four.asker, 0), Rig.INVALID);
            phases(c, four.name, four.rig.cores, 4);
            int due = four.state == Rig.INVALID ? Rig.EXCLUSIVE : Rig.SHARED;
            c.due(four.name + ", its state", four.rig.stateOf(four.asker, 0), due);
            c.due(four.name + ", its line", four.rig.lineOf(four.asker, 0), 1);
        });
        for (int state : new int[] {Rig.SHARED, Rig.EXCLUSIVE}) {
            Rig rig = asksWith(state, Words.load(0, 3, 4));
            phases(check, "another line in the slot", rig.cores, 1, 3);
            check.due("that line stays until the SUPPLY", rig.lineOf(0, 0), 1);
            phases(check, "another line in the slot", rig.cores, 4);
            check.due("the line then", rig.lineOf(0, 0), 2);
            check.due("the state then", rig.stateOf(0, 0), Rig.EXCLUSIVE);
            check.due("word 0 then", rig.cores.slot(0, 0, 2), 104);
        }
    }

    private static void supplyOfAnOwn(Check check) {
        forAll(check, OWNING, (c, four) -> {
            phases(c, four.name, four.rig.cores, 1, 3);
            c.due(four.name + ", before the SUPPLY", four.rig.stateOf(four.asker, 0), Rig.INVALID);
            phases(c, four.name, four.rig.cores, 4);
            c.due(four.name + ", its state", four.rig.stateOf(four.asker, 0), Rig.MODIFIED);
            c.due(four.name + ", its line", four.rig.lineOf(four.asker, 0), 1);
        });
        for (int state : new int[] {Rig.SHARED, Rig.OWNED}) {
            Rig rig = asksWith(state, OWNING);
            phases(check, "the asker in state " + state, rig.cores, 1, 3, 4);
            check.due("its state", rig.stateOf(0, 0), Rig.MODIFIED);
        }
    }

    /** An OWNED line is newer than the memory, from which its line is kept: its words must stay. */
    private static void ownOfItsOwnLine(Check check) {
        int[][] dues = {{Rig.INVALID, 102}, {Rig.SHARED, 102}, {Rig.OWNED, 7}};
        for (int[] due : dues) {
            Rig rig = asksWith(due[0], OWNING);
            phases(check, "the asker in state " + due[0], rig.cores, 1, 3, 4);
            check.due("its line", rig.lineOf(0, 0), 1);
            check.due("its word 0", rig.cores.slot(0, 0, 2), due[1]);
            check.due("its word 1", rig.cores.slot(0, 0, 3), 103);
        }
        Rig another = asksWith(Rig.EXCLUSIVE, Words.store(1, 3, 4));
        phases(check, "the asker with another line", another.cores, 1, 3, 4);
        check.due("its line", another.lineOf(0, 0), 2);
        check.due("its word 0", another.cores.slot(0, 0, 2), 104);
    }

    private static void runsThen(Check check) {
        for (int instruction : new int[] {READING, OWNING}) {
            SnoopingCores x = new Rig(2, 1, 2, 8).code(1, instruction).cores;
            x.step(1);
            phases(check, "word " + instruction, x, 1, 3);
            check.due("status before the SUPPLY", x.cpu(1, 1), 1);
            check.due("phase before the SUPPLY", x.state(0), 3);
            phases(check, "word " + instruction, x, 4);
            check.due("status then", x.cpu(1, 1), 0);
            check.due("phase then", x.state(0), 0);
            check.due("instructions, none by the bus", x.cpu(1, 2), 0);
            phases(check, "word " + instruction, x, 0);
            check.due("step(1) then", x.step(1), 1);
        }
    }
}

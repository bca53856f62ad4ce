/** The edges that promises 1 to 6 name: a new object, and the calls that change it. */
public final class CallEdgesTest {
    private static final int LEAST = Integer.MIN_VALUE;
    private static final int MOST = Integer.MAX_VALUE;

    public static void main(String[] args) {
        Sentences sentences = new Sentences();
        sentences.of("What it is");
        sentences.holds("An object is used for at most 512 calls after it has been made", CallEdgesTest::allCalls);
        newObject(sentences);
        loadAndPoke(sentences);
        stepAndBus(sentences);
        evict(sentences);
        sentences.end();
    }

    private static void newObject(Sentences sentences) {
        sentences.of("Promise 1");
        sentences.holds("Each number is at least the least and at most the greatest that it may be",
            CallEdgesTest::limits);
        sentences.holds("WIDTH before MEMORY", CallEdgesTest::widthBeforeMemory);
        sentences.holds("All memory and code is 0", CallEdgesTest::memoryAndCodeAreZero);
        sentences.holds("all slots INVALID", CallEdgesTest::slotsAreInvalid);
        sentences.holds("the bus free", CallEdgesTest::busIsFree);
    }

    private static void loadAndPoke(Sentences sentences) {
        sentences.of("Promise 2");
        sentences.holds("Puts a word into a CPU's code: true.", CallEdgesTest::loads);
        sentences.holds("False when there is no such CPU", CallEdgesTest::loadWithoutCpu);
        sentences.holds("or place", CallEdgesTest::loadWithoutPlace);
        sentences.holds("or some CPU has stepped (see step())", CallEdgesTest::loadAfterAStep);
        sentences.of("Promise 3");
        sentences.holds("Puts a word into the memory: true.", CallEdgesTest::pokes);
        sentences.holds("False when there is none such", CallEdgesTest::pokeWithoutAddress);
        sentences.holds("or some CPU has stepped.", CallEdgesTest::pokeAfterAStep);
    }

    private static void stepAndBus(Sentences sentences) {
        sentences.of("Promise 4");
        sentences.holds("1 it did an instruction", CallEdgesTest::didAnInstruction);
        sentences.holds("2 it WAITS (or did so already, and its transaction has not come to its end)",
            CallEdgesTest::waitsAlready);
        sentences.holds("3 it is HALTED (by this, or was)", CallEdgesTest::wasHalted);
        sentences.holds("4 TRAPPED (likewise)", CallEdgesTest::wasTrapped);
        sentences.holds("-1 when there is none (that is no step)", CallEdgesTest::noStep);
        sentences.of("Promise 5");
        sentences.holds("The bus does its next phase: which (1 to 4)", CallEdgesTest::allPhases);
        sentences.holds("0 when it is free and there are no requests.", CallEdgesTest::nothingForTheBus);
    }

    private static void evict(Sentences sentences) {
        sentences.of("Promise 6");
        sentences.holds("A CPU's slot is emptied: 1", CallEdgesTest::empties);
        sentences.holds("and an OWNED or MODIFIED line comes into the memory", CallEdgesTest::savesWhatIsNew);
        sentences.holds("2, doing nothing, when a transaction goes on that is this CPU's and for this slot "
            + "(INVALID or not)", CallEdgesTest::slotOfTheTransaction);
        sentences.holds("or is for the line in it", CallEdgesTest::lineOfTheTransaction);
        sentences.holds("otherwise 0 when it is INVALID", CallEdgesTest::emptyAlready);
        sentences.holds("-1 when there is none.", CallEdgesTest::noSuchSlot);
    }

    private static void limits(Check check) {
        int[][] dues = {{LEAST, 1, 1, 1, 1, 1}, {0, 1, 1, 1, 1, 1}, {1, 1, 1, 1, 1, 1}, {65, 4, 8, 4, 64, 32},
            {MOST, 4, 8, 4, 64, 32}};
        for (int[] due : dues) {
            SnoopingCores x = new SnoopingCores(due[0], due[0], due[0], due[0], due[0]);
            int last = due[1] - 1;
            check.due("the last CPU and slot of " + due[0], x.slot(last, due[2] - 1, 0), 0);
            check.due("the CPU beyond", x.slot(last + 1, 0, 0), -1);
            check.due("the slot beyond", x.slot(last, due[2], 0), -1);
            check.due("the line's last word", x.slot(last, 0, 1 + due[3]), 0);
            check.due("the word beyond", x.slot(last, 0, 2 + due[3]), -1);
            check.due("the last address", x.poke(due[4] - 1, 1), true);
            check.due("the address beyond", x.poke(due[4], 1), false);
            check.due("the last place", x.load(last, due[5] - 1, 1), true);
            check.due("the place beyond", x.load(last, due[5], 1), false);
        }
    }

    /** The memory's least is the WIDTH as limited, not as given. */
    private static void widthBeforeMemory(Check check) {
        int[][] dues = {{MOST, LEAST, 4}, {MOST, 5, 4}, {9, 6, 4}, {9, 8, 8}, {LEAST, 3, 3}, {-5, -7, 1}, {0, 0, 1},
            {70, 70, 64}};
        for (int[] due : dues) {
            SnoopingCores x = new SnoopingCores(1, 1, due[0], due[1], 1);
            String made = "WIDTH " + due[0] + ", MEMORY " + due[1] + ": ";
            check.due(made + "the last address", x.poke(due[2] - 1, 1), true);
            check.due(made + "the address beyond", x.poke(due[2], 1), false);
        }
    }

    private static void memoryAndCodeAreZero(Check check) {
        SnoopingCores x = new SnoopingCores(4, 8, 4, 64, 32);
        for (int a = 0; a < 64; a++) {
            check.due("memory(" + a + ")", x.memory(a), 0);
        }
        for (int place = 0; place < 32; place++) {
            SnoopingCores y = new SnoopingCores(4, 1, 1, 1, 32);
            for (int before = 0; before < place; before++) {
                y.load(place % 4, before, Words.go(place));
            }
            for (int i = 0; i < 2 && y.cpu(place % 4, 1) == 0; i++) {
                y.step(place % 4);
            }
            check.due("HALTED by the 0 at place " + place, y.cpu(place % 4, 1), 2);
            check.due("its place", y.cpu(place % 4, 0), place + 1);
        }
    }

    private static void slotsAreInvalid(Check check) {
        SnoopingCores x = new SnoopingCores(4, 8, 4, 64, 32);
        for (int cpu = 0; cpu < 4; cpu++) {
            for (int slot = 0; slot < 8; slot++) {
                for (int what = 0; what < 6; what++) {
                    String call = "slot(" + cpu + ", " + slot + ", " + what + ")";
                    check.due(call, x.slot(cpu, slot, what), what == 1 ? -1 : 0);
                }
            }
        }
    }

    private static void busIsFree(Check check) {
        SnoopingCores x = new SnoopingCores(4, 8, 4, 64, 32);
        int[] due = {0, -1, 0, -1, 0, 0, 0, 0};
        for (int what = 0; what < due.length; what++) {
            check.due("state(" + what + ")", x.state(what), due[what]);
        }
        check.due("bus()", x.bus(), 0);
    }

    private static void loads(Check check) {
        SnoopingCores x = new SnoopingCores(4, 1, 1, 1, 32);
        check.due("load(0, 0, ..)", x.load(0, 0, Words.go(31)), true);
        check.due("load(0, 31, ..)", x.load(0, 31, Words.set(0, 5)), true);
        check.due("load(3, 0, ..)", x.load(3, 0, Words.go(31)), true);
        check.due("load(3, 31, ..)", x.load(3, 31, Words.set(0, 5)), true);
        check.due("load(3, 31, ..) over it", x.load(3, 31, Words.set(0, -6)), true);
        for (int cpu : new int[] {0, 3}) {
            x.step(cpu);
            x.step(cpu);
        }
        check.due("what the first CPU did at the last place", x.register(0, 0), 5);
        check.due("what the last CPU did at the last place", x.register(3, 0), -6);
        check.due("what a CPU without a program does", x.step(1), 3);
    }

    private static void loadWithoutCpu(Check check) {
        for (int cpus = 1; cpus <= 4; cpus++) {
            SnoopingCores x = new SnoopingCores(cpus, 1, 1, 1, 1);
            for (int cpu : new int[] {LEAST, -1, cpus, cpus + 1, MOST}) {
                check.due("load(" + cpu + ", 0, 1) of " + cpus, x.load(cpu, 0, 1), false);
            }
            for (int cpu = 0; cpu < cpus; cpu++) {
                check.due("step(" + cpu + "), its code is 0 still", x.step(cpu), 3);
            }
        }
    }

    private static void loadWithoutPlace(Check check) {
        for (int code : new int[] {1, 2, 31, 32}) {
            SnoopingCores x = new SnoopingCores(2, 1, 1, 1, code);
            for (int place : new int[] {LEAST, -1, code, code + 1, MOST}) {
                check.due("load(1, " + place + ", 1) of " + code, x.load(1, place, 1), false);
            }
            check.due("step(1), its code is 0 still", x.step(1), 3);
        }
    }

    /** CPU 0 of an object on which some CPU has stepped, with this answer. */
    private static SnoopingCores steppedWith(Check check, int answer) {
        int[] instructions = {Words.set(0, 1), Words.load(0, 0, 0), Words.HALT, 15};
        SnoopingCores x = new SnoopingCores(2, 1, 1, 1, 2);
        x.load(1, 0, instructions[answer - 1]);
        check.due("step(1)", x.step(1), answer);
        return x;
    }

    private static void loadAfterAStep(Check check) {
        for (int answer = 1; answer <= 4; answer++) {
            SnoopingCores x = steppedWith(check, answer);
            check.due("load of another after a step of answer " + answer, x.load(0, 0, 15), false);
            check.due("load of the CPU after a step of answer " + answer, x.load(1, 1, 15), false);
            check.due("step(0), its code is 0 still", x.step(0), 3);
        }
        SnoopingCores x = new SnoopingCores(2, 1, 1, 1, 2);
        x.bus();
        x.evict(0, 0);
        check.due("load when only the bus and evict were called", x.load(0, 0, 1), true);
    }

    private static void pokes(Check check) {
        SnoopingCores x = new SnoopingCores(1, 1, 4, 64, 1);
        for (int address : new int[] {0, 3, 4, 63}) {
            for (int word : new int[] {MOST, LEAST, -1}) {
                check.due("poke(" + address + ", " + word + ")", x.poke(address, word), true);
                check.due("memory(" + address + ")", x.memory(address), word);
            }
        }
        check.due("memory(1)", x.memory(1), 0);
        check.due("memory(62)", x.memory(62), 0);
    }

    private static void pokeWithoutAddress(Check check) {
        for (int width = 1; width <= 4; width++) {
            Rig rig = new Rig(1, 1, width, 11);
            int size = 11 / width * width;
            String before = rig.everything();
            for (int address : new int[] {LEAST, -1, size, size + 1, 64, MOST}) {
                check.due("poke(" + address + ", 1) of " + size, rig.cores.poke(address, 1), false);
            }
            check.same("a refused poke", before, rig.everything());
        }
    }

    private static void pokeAfterAStep(Check check) {
        for (int answer = 1; answer <= 4; answer++) {
            SnoopingCores x = steppedWith(check, answer);
            check.due("poke after a step of answer " + answer, x.poke(0, 7), false);
            check.due("memory(0)", x.memory(0), 0);
        }
        SnoopingCores x = new SnoopingCores(2, 1, 1, 1, 2);
        x.bus();
        x.evict(0, 0);
        check.due("poke when only the bus and evict were called", x.poke(0, 7), true);
    }

    private static void didAnInstruction(Check check) {
        for (int operation = 1; operation <= 11; operation++) {
            SnoopingCores x = Rig.ready(Words.word(operation, 0, 1, 2, 3), 0, 0, 0, 0).cores;
            check.due("operation " + operation, x.step(0), 1);
            check.due("instructions", x.cpu(0, 2), 5);
            check.due("status", x.cpu(0, 1), 0);
        }
    }

    private static void waitsAlready(Check check) {
        Rig rig = new Rig(2, 1, 1, 8).code(0, Words.store(0, 3, 2), Words.load(1, 3, 3)).code(1, Words.load(1, 3, 5));
        SnoopingCores x = rig.done(0, 1).cores;
        check.due("it waits by this", x.step(0), 2);
        check.due("another waits by this", x.step(1), 2);
        for (int phase = 1; phase <= 4; phase++) {
            String before = rig.everything();
            check.due("it waits before phase " + phase, x.step(0), 2);
            check.due("the other, too", x.step(1), 2);
            check.same("a step of one that waits", before, rig.everything());
            check.due("bus()", x.bus(), phase);
        }
        check.due("at the end of its transaction", x.step(0), 1);
        check.due("the other waits on", x.step(1), 2);
    }

    private static void wasHalted(Check check) {
        Rig rig = Rig.ready(Words.HALT, 1, 2, 3, 4);
        check.due("by this", rig.cores.step(0), 3);
        String before = rig.everything();
        for (int times = 0; times < 3; times++) {
            check.due("it was", rig.cores.step(0), 3);
        }
        check.same("a step of one that is HALTED", before, rig.everything());
    }

    private static void wasTrapped(Check check) {
        for (int instruction : new int[] {12, Words.load(0, 0, -2), Words.store(0, 0, 64)}) {
            Rig rig = Rig.ready(instruction, 1, 2, 3, 4);
            check.due("by this", rig.cores.step(0), 4);
            String before = rig.everything();
            for (int times = 0; times < 3; times++) {
                check.due("it was", rig.cores.step(0), 4);
            }
            check.same("a step of one that is TRAPPED", before, rig.everything());
        }
    }

    private static void noStep(Check check) {
        for (int cpus = 1; cpus <= 4; cpus++) {
            Rig rig = new Rig(cpus, 1, 1, 1, 1);
            String before = rig.everything();
            for (int cpu : new int[] {LEAST, -1, cpus, cpus + 1, MOST}) {
                check.due("step(" + cpu + ") of " + cpus, rig.cores.step(cpu), -1);
            }
            check.same("a step of no CPU", before, rig.everything());
            check.due("poke, no CPU has stepped", rig.cores.poke(0, 1), true);
            check.due("load, no CPU has stepped", rig.cores.load(0, 0, 1), true);
        }
    }

    private static void allPhases(Check check) {
        Rig rig = new Rig(1, 1, 1, 8).code(0, Words.store(0, 3, 2), Words.store(0, 3, 3)).done(0, 1);
        rig.cores.step(0);
        for (int phase = 1; phase <= 4; phase++) {
            check.due("bus()", rig.cores.bus(), phase);
            check.due("the latest phase", rig.cores.state(0), phase == 4 ? 0 : phase);
        }
    }

    private static void nothingForTheBus(Check check) {
        Rig rig = new Rig(2, 1, 1, 8).code(0, Words.load(0, 3, 2), Words.HALT).code(1, 15);
        nothingToDo(check, "new", rig);
        rig.done(0, 1);
        nothingToDo(check, "after a transaction", rig);
        rig.cores.step(0);
        rig.cores.step(1);
        nothingToDo(check, "HALTED and TRAPPED", rig);
    }

    private static void nothingToDo(Check check, String when, Rig rig) {
        String before = rig.everything();
        check.due(when + ": bus()", rig.cores.bus(), 0);
        check.due(when + ": bus() again", rig.cores.bus(), 0);
        check.same(when + ": bus()", before, rig.everything());
    }

    /** CPU 0 holds line 1 in this state, in slot 1 of 2; CPU 1 shares it where the state needs that. */
    private static Rig holding(int state) {
        Rig rig = new Rig(2, 2, 2, 8).numbered();
        boolean stores = state == Rig.OWNED || state == Rig.MODIFIED;
        rig.code(0, Words.set(1, 7), stores ? Words.store(1, 3, 2) : Words.load(0, 3, 2), Words.load(0, 3, 6));
        rig.code(1, Words.load(0, 3, 2)).done(0, 2);
        if (state == Rig.SHARED || state == Rig.OWNED) {
            rig.done(1, 1);
        }
        if (rig.stateOf(0, 1) != state) {
            throw new IllegalStateException("state " + state + " was not come to");
        }
        return rig;
    }

    private static void empties(Check check) {
        for (int state = Rig.SHARED; state <= Rig.MODIFIED; state++) {
            Rig rig = holding(state);
            int other = rig.stateOf(1, 1);
            check.due("evict(0, 1) in state " + state, rig.cores.evict(0, 1), 1);
            check.due("its state", rig.stateOf(0, 1), Rig.INVALID);
            check.due("its line", rig.lineOf(0, 1), -1);
            check.due("its word 0", rig.cores.slot(0, 1, 2), 0);
            check.due("its word 1", rig.cores.slot(0, 1, 3), 0);
            check.due("the other CPU's state", rig.stateOf(1, 1), other);
        }
    }

    private static void savesWhatIsNew(Check check) {
        for (int state = Rig.SHARED; state <= Rig.MODIFIED; state++) {
            Rig rig = holding(state);
            boolean isNew = state == Rig.OWNED || state == Rig.MODIFIED;
            check.due("memory(2) before", rig.cores.memory(2), 102);
            rig.cores.evict(0, 1);
            int[] due = {100, 101, isNew ? 7 : 102, 103, 104, 105, 106, 107};
            for (int a = 0; a < due.length; a++) {
                check.due("memory(" + a + ") after state " + state, rig.cores.memory(a), due[a]);
            }
        }
        Rig rig = holding(Rig.OWNED);
        check.due("evict(1, 1), SHARED while another is OWNED", rig.cores.evict(1, 1), 1);
        check.due("memory(2)", rig.cores.memory(2), 102);
    }

    private static void slotOfTheTransaction(Check check) {
        for (int state : new int[] {Rig.SHARED, Rig.EXCLUSIVE, Rig.OWNED, Rig.MODIFIED}) {
            Rig rig = holding(state);
            rig.cores.step(0);
            refusedUntilTheSupply(check, "another line in state " + state, rig, 1);
        }
        Rig empty = new Rig(2, 2, 2, 8).code(0, Words.load(0, 3, 4));
        empty.cores.step(0);
        check.due("evict(0, 0), its transaction has not begun", empty.cores.evict(0, 0), 0);
        refusedUntilTheSupply(check, "INVALID", empty, 0);
        check.due("evict(0, 0), its transaction is at its end", empty.cores.evict(0, 0), 1);
    }

    /** Also the same slot of the other CPU, and the other slot, must not be refused for it. */
    private static void refusedUntilTheSupply(Check check, String when, Rig rig, int slot) {
        for (int phase = rig.cores.bus(); phase != 4 && phase != 0; phase = rig.cores.bus()) {
            String before = rig.everything();
            check.due(when + ", phase " + phase, rig.cores.evict(0, slot), 2);
            check.same(when + ", phase " + phase, before, rig.everything());
            check.due(when + ", the CPU's other slot", rig.cores.evict(0, 1 - slot), 0);
            check.due(when + ", the other CPU's slot", rig.cores.evict(1, slot) == 2, false);
        }
        check.due(when + ", the bus is free", rig.cores.state(0), 0);
    }

    private static void lineOfTheTransaction(Check check) {
        for (int state : new int[] {Rig.EXCLUSIVE, Rig.MODIFIED}) {
            Rig rig = holding(state);
            rig.cores.step(1);
            for (int phase : new int[] {1, 3}) {
                check.due("bus()", rig.cores.bus(), phase);
                String before = rig.everything();
                check.due("evict(0, 1) from state " + state + ", phase " + phase, rig.cores.evict(0, 1), 2);
                check.same("evict(0, 1), phase " + phase, before, rig.everything());
            }
            check.due("bus()", rig.cores.bus(), 4);
            check.due("evict(0, 1), at the end", rig.cores.evict(0, 1), 1);
        }
        takenLine(check);
        anotherLine(check);
    }

    /** An OWN takes the line away, so that after the SNOOP it is in the slot no more. */
    private static void takenLine(Check check) {
        Rig rig = new Rig(2, 1, 1, 4).code(0, Words.load(0, 3, 2)).code(1, Words.store(0, 3, 2)).done(0, 1);
        rig.cores.step(1);
        rig.cores.bus();
        check.due("evict(0, 0), before the SNOOP of an OWN", rig.cores.evict(0, 0), 2);
        rig.cores.bus();
        check.due("evict(0, 0), after the SNOOP of an OWN", rig.cores.evict(0, 0), 0);
    }

    private static void anotherLine(Check check) {
        Rig rig = new Rig(2, 1, 1, 4).code(0, Words.load(0, 3, 3)).code(1, Words.load(0, 3, 2)).done(0, 1);
        rig.cores.step(1);
        rig.cores.bus();
        check.due("evict(0, 0), another line in it", rig.cores.evict(0, 0), 1);
    }

    private static void emptyAlready(Check check) {
        Rig rig = holding(Rig.MODIFIED);
        check.due("evict(0, 1)", rig.cores.evict(0, 1), 1);
        String before = rig.everything();
        for (int cpu = 0; cpu < 2; cpu++) {
            for (int slot = 0; slot < 2; slot++) {
                check.due("evict(" + cpu + ", " + slot + ")", rig.cores.evict(cpu, slot), 0);
            }
        }
        check.same("evict of what is INVALID", before, rig.everything());
    }

    private static void noSuchSlot(Check check) {
        Rig rig = holding(Rig.MODIFIED);
        int[][] wrong = {{-1, 1}, {2, 1}, {4, 1}, {LEAST, 1}, {MOST, 1}, {0, -1}, {0, 2}, {0, 8}, {0, LEAST},
            {0, MOST}, {-1, -1}, {2, 2}};
        rig.cores.step(1);
        for (int phase = 0; phase < 2; phase++) {
            String before = rig.everything();
            for (int[] pair : wrong) {
                check.due("evict(" + pair[0] + ", " + pair[1] + ")", rig.cores.evict(pair[0], pair[1]), -1);
            }
            check.same("evict of no slot", before, rig.everything());
            rig.cores.bus();
        }
    }

    /** 511 calls of a program that never ends, and the 512th, which must be right still. */
    private static void allCalls(Check check) {
        SnoopingCores x = new SnoopingCores(1, 1, 1, 1, 2);
        x.load(0, 0, Words.addNumber(0, 0, 1));
        x.load(0, 1, Words.go(0));
        for (int call = 3; call < 512; call++) {
            check.due("call " + call, x.step(0), 1);
        }
        check.due("call 512", x.register(0, 0), 255);
    }
}

/** The edges that promises 7 to 12 name: the calls that only answer. */
public final class AnswerEdgesTest {
    private static final int LEAST = Integer.MIN_VALUE;
    private static final int MOST = Integer.MAX_VALUE;

    public static void main(String[] args) {
        Sentences sentences = new Sentences();
        sentences.of("Promise 7");
        sentences.holds("A register; 0 when there is none.", AnswerEdgesTest::registers);
        cpu(sentences);
        slot(sentences);
        words(sentences);
        bus(sentences);
        sentences.end();
    }

    private static void cpu(Sentences sentences) {
        sentences.of("Promise 8");
        sentences.holds("0 its PLACE", AnswerEdgesTest::place);
        sentences.holds("1 its STATUS", AnswerEdgesTest::status);
        sentences.holds("2 how many instructions it did (HALT, too)", AnswerEdgesTest::instructions);
        sentences.holds("3 its request (0 none, 1 READ, 2 OWN)", AnswerEdgesTest::request);
        sentences.holds("4 the line of that (-1 for none)", AnswerEdgesTest::requestLine);
        sentences.holds("-1 when there is none.", AnswerEdgesTest::noSuchCpu);
    }

    private static void slot(Sentences sentences) {
        sentences.of("Promise 9");
        sentences.holds("Of a slot: 0 its state", AnswerEdgesTest::state);
        sentences.holds("1 its line (-1 for none)", AnswerEdgesTest::line);
        sentences.holds("2 + k (k from 0 to WIDTH - 1) its word k", AnswerEdgesTest::slotWords);
        sentences.holds("(0 when INVALID)", AnswerEdgesTest::wordsOfNoLine);
        sentences.holds("-1 when there is none.", AnswerEdgesTest::noSuchSlot);
    }

    private static void words(Sentences sentences) {
        sentences.of("Promise 10");
        sentences.holds("the word in an OWNED or MODIFIED line if some CPU has it so", AnswerEdgesTest::newestWord);
        sentences.holds("otherwise that in the memory", AnswerEdgesTest::wordOfTheMemory);
        sentences.holds("0 when there is no such address.", AnswerEdgesTest::peekWithoutAddress);
        sentences.of("Promise 11");
        sentences.holds("A word of the memory itself", AnswerEdgesTest::memoryItself);
        sentences.holds("0 when there is none.", AnswerEdgesTest::memoryWithoutAddress);
    }

    private static void bus(Sentences sentences) {
        sentences.of("Promise 12");
        sentences.holds("0 the latest phase of the transaction that goes on (0 when it is free)",
            AnswerEdgesTest::latestPhase);
        sentences.holds("1 its CPU, 2 its request (1 READ, 2 OWN), 3 its line", AnswerEdgesTest::transaction);
        sentences.holds("(1 and 3 are -1, 2 is 0 when it is free)", AnswerEdgesTest::noTransaction);
        sentences.holds("3 + p (p from 1 to 4) how many phases p there were", AnswerEdgesTest::phasesDone);
        sentences.holds("-1 for others", AnswerEdgesTest::othersOfTheBus);
    }

    private static void registers(Check check) {
        for (int cpus = 1; cpus <= 4; cpus++) {
            Rig rig = new Rig(cpus, 1, 1, 1);
            for (int cpu = 0; cpu < cpus; cpu++) {
                rig.code(cpu, Words.set(0, 10), Words.set(1, 11), Words.set(2, 12), Words.set(3, 13));
            }
            for (int cpu = 0; cpu < cpus; cpu++) {
                rig.done(cpu, 4);
                for (int k = 0; k < 4; k++) {
                    check.due("register(" + cpu + ", " + k + ")", rig.cores.register(cpu, k), 10 + k);
                }
                for (int k : new int[] {LEAST, -1, 4, 5, MOST}) {
                    check.due("register(" + cpu + ", " + k + ")", rig.cores.register(cpu, k), 0);
                }
            }
            for (int cpu : new int[] {LEAST, -1, cpus, cpus + 1, MOST}) {
                check.due("register(" + cpu + ", 3) of " + cpus, rig.cores.register(cpu, 3), 0);
            }
        }
    }

    private static void place(Check check) {
        Rig rig = new Rig(2, 1, 1, 8).code(0, Words.load(0, 3, 2), Words.go(-7));
        check.due("at first", rig.cores.cpu(0, 0), 0);
        rig.cores.step(0);
        check.due("while it waits", rig.cores.cpu(0, 0), 0);
        rig.done(0, 1);
        check.due("after an instruction", rig.cores.cpu(0, 0), 1);
        rig.cores.step(0);
        check.due("gone to -7", rig.cores.cpu(0, 0), -7);
        rig.cores.step(0);
        check.due("TRAPPED there", rig.cores.cpu(0, 0), -7);
        check.due("the other CPU's", rig.cores.cpu(1, 0), 0);
    }

    private static void status(Check check) {
        Rig rig = new Rig(2, 1, 1, 8).code(0, Words.load(0, 3, 2), Words.HALT).code(1, 12);
        check.due("it runs", rig.cores.cpu(0, 1), 0);
        rig.cores.step(0);
        check.due("it WAITS", rig.cores.cpu(0, 1), 1);
        for (int phase : new int[] {1, 3}) {
            rig.cores.bus();
            check.due("it WAITS after phase " + phase, rig.cores.cpu(0, 1), 1);
        }
        rig.cores.bus();
        check.due("it runs again", rig.cores.cpu(0, 1), 0);
        rig.cores.step(0);
        rig.cores.step(0);
        check.due("HALTED", rig.cores.cpu(0, 1), 2);
        rig.cores.step(1);
        check.due("TRAPPED", rig.cores.cpu(1, 1), 3);
    }

    private static void instructions(Check check) {
        Rig rig = new Rig(2, 1, 1, 8).code(0, Words.goIfZero(0, 2), 12, Words.load(0, 3, 2), Words.HALT).code(1, 12);
        int[] due = {1, 1, 2, 3, 3};
        check.due("at first", rig.cores.cpu(0, 2), 0);
        for (int i = 0; i < due.length; i++) {
            rig.cores.step(0);
            check.due("after step " + i, rig.cores.cpu(0, 2), due[i]);
            rig.finishBus();
            check.due("after the bus and step " + i, rig.cores.cpu(0, 2), due[i]);
        }
        rig.cores.step(1);
        check.due("a trap is no instruction done", rig.cores.cpu(1, 2), 0);
    }

    private static Rig fourThatAsk() {
        Rig rig = new Rig(4, 1, 2, 8).code(0, Words.load(0, 3, 1)).code(1, Words.store(0, 3, 7));
        rig.code(2, Words.swap(0, 3, 0, 2)).code(3, Words.HALT);
        for (int cpu = 0; cpu < 4; cpu++) {
            rig.cores.step(cpu);
        }
        return rig;
    }

    private static void request(Check check) {
        int[] due = {1, 2, 2, 0};
        check.due("at first", new SnoopingCores(1, 1, 1, 1, 1).cpu(0, 3), 0);
        Rig rig = fourThatAsk();
        for (int cpu = 0; cpu < 4; cpu++) {
            check.due("request of CPU " + cpu, rig.cores.cpu(cpu, 3), due[cpu]);
        }
        rig.cores.bus();
        check.due("request of CPU 0, taken", rig.cores.cpu(0, 3), 0);
        check.due("request of CPU 1, not taken", rig.cores.cpu(1, 3), 2);
        rig.finishBus();
        check.due("request of CPU 2, at the end", rig.cores.cpu(2, 3), 0);
    }

    private static void requestLine(Check check) {
        int[] due = {0, 3, 1, -1};
        check.due("at first", new SnoopingCores(1, 1, 1, 1, 1).cpu(0, 4), -1);
        Rig rig = fourThatAsk();
        for (int cpu = 0; cpu < 4; cpu++) {
            check.due("line of CPU " + cpu, rig.cores.cpu(cpu, 4), due[cpu]);
        }
        rig.cores.bus();
        check.due("line of CPU 0, taken", rig.cores.cpu(0, 4), -1);
        check.due("line of CPU 1, not taken", rig.cores.cpu(1, 4), 3);
        rig.finishBus();
        check.due("line of CPU 2, at the end", rig.cores.cpu(2, 4), -1);
    }

    private static void noSuchCpu(Check check) {
        for (int cpus = 1; cpus <= 4; cpus++) {
            SnoopingCores x = new SnoopingCores(cpus, 1, 1, 1, 1);
            for (int cpu : new int[] {LEAST, -1, cpus, cpus + 1, MOST}) {
                for (int what = 0; what < 5; what++) {
                    check.due("cpu(" + cpu + ", " + what + ") of " + cpus, x.cpu(cpu, what), -1);
                }
            }
            for (int what : new int[] {LEAST, -1, 5, 6, MOST}) {
                check.due("cpu(0, " + what + ")", x.cpu(0, what), -1);
            }
        }
    }

    /** Two CPUs with line 1 in slot 1 of 2: CPU 0 changed its word 3 to 7, CPU 1 has read it. */
    private static Rig ownedAndShared() {
        Rig rig = new Rig(2, 2, 2, 8).numbered();
        rig.code(0, Words.load(0, 3, 2), Words.set(1, 7), Words.store(1, 3, 3));
        rig.code(1, Words.load(0, 3, 2));
        return rig.done(0, 3).done(1, 1);
    }

    private static void state(Check check) {
        Rig rig = new Rig(2, 2, 2, 8).code(0, Words.load(0, 3, 2), Words.store(1, 3, 3)).code(1, Words.load(0, 3, 2));
        check.due("INVALID", rig.cores.slot(0, 1, 0), 0);
        rig.done(0, 1);
        check.due("EXCLUSIVE", rig.cores.slot(0, 1, 0), 2);
        rig.done(0, 1);
        check.due("MODIFIED", rig.cores.slot(0, 1, 0), 4);
        rig.done(1, 1);
        check.due("OWNED", rig.cores.slot(0, 1, 0), 3);
        check.due("SHARED", rig.cores.slot(1, 1, 0), 1);
        check.due("the other slot", rig.cores.slot(0, 0, 0), 0);
    }

    private static void line(Check check) {
        Rig rig = ownedAndShared();
        check.due("line 1, OWNED", rig.cores.slot(0, 1, 1), 1);
        check.due("line 1, SHARED", rig.cores.slot(1, 1, 1), 1);
        check.due("a slot never filled", rig.cores.slot(0, 0, 1), -1);
        rig.cores.evict(0, 1);
        check.due("a slot emptied", rig.cores.slot(0, 1, 1), -1);
        Rig first = new Rig(1, 1, 1, 1).code(0, Words.load(0, 3, 0)).done(0, 1);
        check.due("line 0", first.cores.slot(0, 0, 1), 0);
        Rig last = new Rig(1, 8, 1, 64).code(0, Words.load(0, 3, 63)).done(0, 1);
        check.due("line 63", last.cores.slot(0, 7, 1), 63);
    }

    private static void slotWords(Check check) {
        for (int width = 1; width <= 4; width++) {
            Rig rig = new Rig(1, 1, width, 8).numbered().code(0, Words.load(0, 3, width)).done(0, 1);
            for (int k = 0; k < width; k++) {
                check.due("word " + k + " of " + width, rig.cores.slot(0, 0, 2 + k), 100 + width + k);
            }
            check.due("the one beyond of " + width, rig.cores.slot(0, 0, 2 + width), -1);
        }
    }

    private static void wordsOfNoLine(Check check) {
        Rig rig = ownedAndShared();
        rig.cores.evict(0, 1);
        for (int slot = 0; slot < 2; slot++) {
            for (int k = 0; k < 2; k++) {
                check.due("word " + k + " of empty slot " + slot, rig.cores.slot(0, slot, 2 + k), 0);
            }
        }
        Rig taken = new Rig(2, 1, 1, 4).numbered().code(0, Words.load(0, 3, 2)).code(1, Words.store(0, 3, 2));
        taken.done(0, 1).done(1, 1);
        check.due("the word of a line that was taken away", taken.cores.slot(0, 0, 2), 0);
    }

    private static void noSuchSlot(Check check) {
        SnoopingCores x = ownedAndShared().cores;
        int[][] wrong = {{-1, 1}, {2, 1}, {4, 1}, {LEAST, 1}, {MOST, 1}, {0, -1}, {0, 2}, {0, 8}, {0, LEAST},
            {0, MOST}};
        for (int[] pair : wrong) {
            for (int what = 0; what < 4; what++) {
                String call = "slot(" + pair[0] + ", " + pair[1] + ", " + what + ")";
                check.due(call, x.slot(pair[0], pair[1], what), -1);
            }
        }
        for (int what : new int[] {LEAST, -1, 4, 5, 6, MOST}) {
            check.due("slot(0, 1, " + what + "), a line there", x.slot(0, 1, what), -1);
            check.due("slot(0, 0, " + what + "), no line there", x.slot(0, 0, what), -1);
        }
    }

    private static void newestWord(Check check) {
        for (int owner = 0; owner < 4; owner++) {
            Rig rig = new Rig(4, 2, 2, 8).numbered().code(owner, Words.set(1, 7), Words.store(1, 3, 3));
            int reader = (owner + 1) % 4;
            rig.code(reader, Words.load(0, 3, 2)).done(owner, 2);
            check.due("peek(3), MODIFIED by CPU " + owner, rig.cores.peek(3), 7);
            check.due("peek(2), its other word", rig.cores.peek(2), 102);
            rig.done(reader, 1);
            check.due("peek(3), OWNED by CPU " + owner, rig.cores.peek(3), 7);
            check.due("peek(2), its other word", rig.cores.peek(2), 102);
            check.due("memory(3)", rig.cores.memory(3), 103);
        }
    }

    private static void wordOfTheMemory(Check check) {
        Rig rig = ownedAndShared();
        check.due("peek(7), another line of the slot", rig.cores.peek(7), 107);
        check.due("peek(0), a line of the other slot", rig.cores.peek(0), 100);
        rig.cores.evict(0, 1);
        check.due("peek(3), SHARED alone, and written back", rig.cores.peek(3), 7);
        rig.cores.evict(1, 1);
        check.due("peek(3), in no cache", rig.cores.peek(3), 7);
        Rig exclusive = new Rig(1, 1, 1, 8).numbered().code(0, Words.load(0, 3, 2)).done(0, 1);
        check.due("peek(2), EXCLUSIVE", exclusive.cores.peek(2), 102);
    }

    private static void peekWithoutAddress(Check check) {
        for (int width = 1; width <= 4; width++) {
            SnoopingCores x = fullMemory(width);
            int size = 11 / width * width;
            for (int address : new int[] {LEAST, -1, size, size + 1, 64, MOST}) {
                check.due("peek(" + address + ") of " + size, x.peek(address), 0);
            }
            check.due("peek(0)", x.peek(0), 100);
            check.due("the last", x.peek(size - 1), 99 + size);
        }
    }

    /** 11 words at most, none of them 0, and the first line MODIFIED in a cache. */
    private static SnoopingCores fullMemory(int width) {
        Rig rig = new Rig(1, 1, width, 11).numbered();
        rig.code(0, Words.load(0, 3, 0), Words.store(0, 3, 0)).done(0, 2);
        return rig.cores;
    }

    private static void memoryItself(Check check) {
        Rig rig = ownedAndShared();
        check.due("memory(3), OWNED", rig.cores.memory(3), 103);
        rig.cores.evict(1, 1);
        check.due("memory(3), OWNED alone", rig.cores.memory(3), 103);
        rig.cores.evict(0, 1);
        check.due("memory(3), written back", rig.cores.memory(3), 7);
    }

    private static void memoryWithoutAddress(Check check) {
        for (int width = 1; width <= 4; width++) {
            SnoopingCores x = fullMemory(width);
            int size = 11 / width * width;
            for (int address : new int[] {LEAST, -1, size, size + 1, 64, MOST}) {
                check.due("memory(" + address + ") of " + size, x.memory(address), 0);
            }
            check.due("memory(0)", x.memory(0), 100);
            check.due("the last", x.memory(size - 1), 99 + size);
        }
    }

    /** CPU 1 has word 2 MODIFIED and waits to own word 7, in the same slot: all four phases will come. */
    private static SnoopingCores beforeAllPhases() {
        Rig rig = new Rig(2, 1, 1, 8).code(1, Words.load(0, 3, 2), Words.store(0, 3, 2), Words.store(0, 3, 7));
        rig.done(1, 2).cores.step(1);
        return rig.cores;
    }

    private static void latestPhase(Check check) {
        SnoopingCores x = beforeAllPhases();
        check.due("with a request, but free", x.state(0), 0);
        for (int phase = 1; phase <= 3; phase++) {
            x.bus();
            check.due("after phase " + phase, x.state(0), phase);
        }
        x.bus();
        check.due("after phase 4", x.state(0), 0);
        x.bus();
        check.due("when there was nothing to do", x.state(0), 0);
    }

    private static void transaction(Check check) {
        SnoopingCores x = beforeAllPhases();
        for (int phase = 1; phase <= 3; phase++) {
            x.bus();
            check.due("CPU in phase " + phase, x.state(1), 1);
            check.due("request in phase " + phase, x.state(2), 2);
            check.due("line in phase " + phase, x.state(3), 7);
        }
        Rig reads = new Rig(1, 1, 2, 8).code(0, Words.load(0, 3, 1));
        reads.cores.step(0);
        reads.cores.bus();
        check.due("CPU 0", reads.cores.state(1), 0);
        check.due("READ", reads.cores.state(2), 1);
        check.due("line 0", reads.cores.state(3), 0);
    }

    private static void noTransaction(Check check) {
        free(check, "new", new SnoopingCores(1, 1, 1, 1, 1));
        SnoopingCores x = beforeAllPhases();
        free(check, "with a request", x);
        for (int phase = 1; phase <= 4; phase++) {
            x.bus();
        }
        free(check, "after phase 4", x);
        x.bus();
        free(check, "when there was nothing to do", x);
    }

    private static void free(Check check, String when, SnoopingCores x) {
        check.due(when + ": state(1)", x.state(1), -1);
        check.due(when + ": state(2)", x.state(2), 0);
        check.due(when + ": state(3)", x.state(3), -1);
    }

    /** One transaction with phases 1, 3 and 4 lies before those that are looked at. */
    private static void phasesDone(Check check) {
        SnoopingCores x = beforeAllPhases();
        int[] due = {1, 0, 1, 1};
        for (int phase = 1; phase <= 4; phase++) {
            x.bus();
            due[phase - 1]++;
            for (int p = 1; p <= 4; p++) {
                check.due("phases " + p + " after phase " + phase, x.state(3 + p), due[p - 1]);
            }
        }
        x.bus();
        check.due("phases 1 when there was nothing to do", x.state(4), 2);
    }

    private static void othersOfTheBus(Check check) {
        SnoopingCores x = beforeAllPhases();
        for (int times = 0; times < 2; times++) {
            for (int what : new int[] {LEAST, LEAST + 3, LEAST + 4, -4, -1, 8, 9, MOST}) {
                check.due("state(" + what + ")", x.state(what), -1);
            }
            x.bus();
        }
    }
}

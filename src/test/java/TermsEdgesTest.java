/** The edges that "Terms" names of the numbers, the memory and the words. */
public final class TermsEdgesTest {
    private static final int LEAST = Integer.MIN_VALUE;
    private static final int MOST = Integer.MAX_VALUE;
    private static final int LEAST_N = -(1 << 21);
    private static final int MOST_N = (1 << 21) - 1;

    public static void main(String[] args) {
        Sentences sentences = new Sentences().of("Terms");
        sentences.holds("CPUS (1 .. 4)", TermsEdgesTest::cpus);
        sentences.holds("SLOTS (1 .. 8) lines", TermsEdgesTest::slots);
        sentences.holds("LINES of WIDTH words (1 .. 4)", TermsEdgesTest::width);
        sentences.holds("MEMORY words (WIDTH .. 64", TermsEdgesTest::memory);
        sentences.holds("as many as whole lines have", TermsEdgesTest::wholeLines);
        sentences.holds("what is beyond is left out", TermsEdgesTest::leftOut);
        sentences.holds("programs of CODE words (1 .. 32)", TermsEdgesTest::code);
        sentences.holds("Words are ints that wrap.", TermsEdgesTest::wrap);
        sentences.holds("Word a of the memory belongs to line a / WIDTH", TermsEdgesTest::linesOfWords);
        sentences.holds("line n has its place in slot n modulo SLOTS", TermsEdgesTest::slotsOfLines);
        sentences.holds("0 INVALID (none)", TermsEdgesTest::emptySlot);
        sentences.holds("A CPU has registers 0 .. 3, all 0 at first", TermsEdgesTest::registers);
        sentences.holds("the PLACE of its next instruction, 0 at first", TermsEdgesTest::firstPlace);
        sentences.holds("its OPERATION is bits 0 .. 3, A bits 4, 5, B bits 6, 7, C bits 8, 9 (registers)",
            TermsEdgesTest::fields);
        sentences.holds("N bits 10 .. 31 with sign", TermsEdgesTest::signedNumber);
        sentences.end();
    }

    private static void cpus(Check check) {
        int[][] dues = {{LEAST, 1}, {-1, 1}, {0, 1}, {1, 1}, {2, 2}, {3, 3}, {4, 4}, {5, 4}, {MOST, 4}};
        for (int[] due : dues) {
            SnoopingCores x = new SnoopingCores(due[0], 1, 1, 1, 1);
            int found = 0;
            for (int cpu = -2; cpu < 40; cpu++) {
                found += x.cpu(cpu, 0) == 0 ? 1 : 0;
            }
            check.due("CPUS of " + due[0], found, due[1]);
        }
    }

    private static void slots(Check check) {
        int[][] dues = {{LEAST, 1}, {-1, 1}, {0, 1}, {1, 1}, {2, 2}, {7, 7}, {8, 8}, {9, 8}, {MOST, 8}};
        for (int[] due : dues) {
            SnoopingCores x = new SnoopingCores(2, due[0], 1, 1, 1);
            for (int cpu = 0; cpu < 2; cpu++) {
                int found = 0;
                for (int slot = -2; slot < 40; slot++) {
                    found += x.slot(cpu, slot, 0) == 0 ? 1 : 0;
                }
                check.due("SLOTS of " + due[0] + ", CPU " + cpu, found, due[1]);
            }
        }
    }

    private static void width(Check check) {
        int[][] dues = {{LEAST, 1}, {-1, 1}, {0, 1}, {1, 1}, {2, 2}, {3, 3}, {4, 4}, {5, 4}, {MOST, 4}};
        for (int[] due : dues) {
            SnoopingCores x = new SnoopingCores(1, 1, due[0], 64, 1);
            int found = 0;
            for (int what = 2; what < 40; what++) {
                found += x.slot(0, 0, what) == 0 ? 1 : 0;
            }
            check.due("WIDTH of " + due[0], found, due[1]);
        }
    }

    private static int memoryOf(SnoopingCores x) {
        int found = 0;
        for (int address = -2; address < 80; address++) {
            found += x.poke(address, 1) ? 1 : 0;
        }
        return found;
    }

    private static void memory(Check check) {
        int[][] dues = {{1, LEAST, 1}, {1, -1, 1}, {1, 0, 1}, {1, 1, 1}, {1, 2, 2}, {1, 63, 63}, {1, 64, 64},
            {1, 65, 64}, {1, MOST, 64}, {4, LEAST, 4}, {4, 0, 4}, {4, 1, 4}, {4, 3, 4}, {4, 4, 4}, {4, 64, 64},
            {4, 65, 64}, {3, 2, 3}, {2, 1, 2}};
        for (int[] due : dues) {
            SnoopingCores x = new SnoopingCores(1, 1, due[0], due[1], 1);
            check.due("MEMORY of " + due[1] + " with WIDTH " + due[0], memoryOf(x), due[2]);
        }
    }

    private static void wholeLines(Check check) {
        for (int width = 1; width <= 4; width++) {
            for (int memory = width; memory <= 64; memory++) {
                SnoopingCores x = new SnoopingCores(1, 1, width, memory, 1);
                check.due("MEMORY of " + memory + " with WIDTH " + width, memoryOf(x), memory / width * width);
            }
        }
    }

    private static void leftOut(Check check) {
        for (int memory : new int[] {64, 65, MOST}) {
            Rig rig = new Rig(2, 1, 3, memory).code(0, Words.load(0, 3, 63)).code(1, Words.load(0, 3, 62));
            check.due("poke(63, 7)", rig.cores.poke(63, 7), false);
            check.due("poke(62, 8)", rig.cores.poke(62, 8), true);
            check.due("memory(63)", rig.cores.memory(63), 0);
            check.due("peek(63)", rig.cores.peek(63), 0);
            check.due("LOAD at 63", rig.cores.step(0), 4);
            check.due("LOAD at 62", rig.cores.step(1), 2);
        }
    }

    private static void code(Check check) {
        int[][] dues = {{LEAST, 1}, {-1, 1}, {0, 1}, {1, 1}, {2, 2}, {31, 31}, {32, 32}, {33, 32}, {MOST, 32}};
        for (int[] due : dues) {
            SnoopingCores x = new SnoopingCores(2, 1, 1, 1, due[0]);
            for (int cpu = 0; cpu < 2; cpu++) {
                int found = 0;
                for (int place = -2; place < 80; place++) {
                    found += x.load(cpu, place, 1) ? 1 : 0;
                }
                check.due("CODE of " + due[0] + ", CPU " + cpu, found, due[1]);
            }
        }
    }

    private static void wrap(Check check) {
        result(check, "most + 1", Words.add(0, 1, 2), MOST, 1, LEAST);
        result(check, "least + least", Words.add(0, 1, 2), LEAST, LEAST, 0);
        result(check, "least - 1", Words.subtract(0, 1, 2), LEAST, 1, MOST);
        result(check, "0 - least", Words.subtract(0, 3, 1), LEAST, 0, LEAST);
        result(check, "most * 2", Words.multiply(0, 1, 2), MOST, 2, -2);
        result(check, "65536 * 65536", Words.multiply(0, 1, 2), 65536, 65536, 0);
        result(check, "least * -1", Words.multiply(0, 1, 2), LEAST, -1, LEAST);
        result(check, "most + N", Words.addNumber(0, 1, 1), MOST, 0, LEAST);
        result(check, "least + N", Words.addNumber(0, 1, -1), LEAST, 0, MOST);
    }

    /** Register 0 after the instruction, with these in registers 1 and 2, and 0 in register 3. */
    private static void result(Check check, String what, int instruction, int r1, int r2, int due) {
        Rig rig = Rig.ready(instruction, 55, r1, r2, 0);
        check.due(what + ": step(0)", rig.cores.step(0), 1);
        check.due(what, rig.cores.register(0, 0), due);
    }

    private static void linesOfWords(Check check) {
        for (int width = 1; width <= 4; width++) {
            for (int address : new int[] {0, width - 1, width, 2 * width - 1, 2 * width, 60 - 1}) {
                Rig rig = new Rig(1, 1, width, 60).numbered().code(0, Words.load(0, 3, address));
                String when = "word " + address + " with WIDTH " + width;
                rig.cores.step(0);
                check.due(when + ", the line asked for", rig.cores.cpu(0, 4), address / width);
                rig.done(0, 1);
                check.due(when + ", the line that came", rig.lineOf(0, 0), address / width);
                check.due(when + ", its word", rig.cores.slot(0, 0, 2 + address % width), 100 + address);
                check.due(when + ", the register", rig.cores.register(0, 0), 100 + address);
            }
        }
    }

    private static void slotsOfLines(Check check) {
        for (int slots = 1; slots <= 8; slots++) {
            for (int line : new int[] {0, slots - 1, slots, 2 * slots - 1, 2 * slots, 63}) {
                Rig rig = new Rig(1, slots, 1, 64).code(0, Words.load(0, 3, line)).done(0, 1);
                for (int slot = 0; slot < slots; slot++) {
                    String when = "line " + line + " of " + slots + " slots, slot " + slot;
                    check.due(when, rig.lineOf(0, slot), slot == line % slots ? line : -1);
                }
            }
        }
    }

    private static void emptySlot(Check check) {
        Rig rig = new Rig(1, 2, 2, 8).numbered().code(0, Words.load(0, 3, 0)).done(0, 1);
        check.due("the line of the slot that holds one", rig.lineOf(0, 0), 0);
        rig.cores.evict(0, 0);
        for (int slot = 0; slot < 2; slot++) {
            check.due("the state of empty slot " + slot, rig.stateOf(0, slot), 0);
            check.due("its line", rig.lineOf(0, slot), -1);
        }
    }

    private static void registers(Check check) {
        Rig rig = new Rig(4, 1, 1, 1);
        for (int cpu = 0; cpu < 4; cpu++) {
            for (int k = 0; k < 4; k++) {
                check.due("register(" + cpu + ", " + k + ") at first", rig.cores.register(cpu, k), 0);
            }
            rig.code(cpu, Words.set(0, 5), Words.set(3, 6));
        }
        rig.done(3, 2);
        check.due("the first of the last CPU", rig.cores.register(3, 0), 5);
        check.due("the last of the last CPU", rig.cores.register(3, 3), 6);
        check.due("there is none beyond", rig.cores.register(3, 4), 0);
    }

    private static void firstPlace(Check check) {
        SnoopingCores x = new SnoopingCores(4, 1, 1, 1, 2);
        for (int cpu = 0; cpu < 4; cpu++) {
            x.load(cpu, 0, Words.set(0, 5));
            check.due("place of CPU " + cpu, x.cpu(cpu, 0), 0);
        }
        for (int cpu = 0; cpu < 4; cpu++) {
            x.step(cpu);
            check.due("what CPU " + cpu + " did first", x.register(cpu, 0), 5);
        }
    }

    /** Each field is told from its neighbours: only it, or all but it, has its bits set. */
    private static void fields(Check check) {
        int subtract = 3;
        fieldsOf(check, subtract | 3 << 4, 3, 1 - 1);
        fieldsOf(check, subtract | 3 << 6, 0, 1000 - 1);
        fieldsOf(check, subtract | 3 << 8, 0, 1 - 1000);
        fieldsOf(check, subtract | 3 << 6 | 3 << 8 | -1 << 10, 0, 1000 - 1000);
        fieldsOf(check, subtract | 3 << 4 | 3 << 8 | -1 << 10, 3, 1 - 1000);
        fieldsOf(check, subtract | 3 << 4 | 3 << 6 | -1 << 10, 3, 1000 - 1);
        fieldsOf(check, subtract | 1 << 4 | 2 << 6 | 1 << 8, 1, 100 - 10);
        fieldsOf(check, subtract | 2 << 4 | 1 << 6 | 2 << 8, 2, 10 - 100);
        Rig halt = Rig.ready(-16, 1, 10, 100, 1000);
        check.due("operation 0 with all other bits", halt.cores.step(0), 3);
        Rig other = Rig.ready(-1, 1, 10, 100, 1000);
        check.due("operation 15 with all other bits", other.cores.step(0), 4);
    }

    private static void fieldsOf(Check check, int word, int changed, int due) {
        Rig rig = Rig.ready(word, 1, 10, 100, 1000);
        int[] dues = {1, 10, 100, 1000};
        dues[changed] = due;
        check.due("word " + word + ": step(0)", rig.cores.step(0), 1);
        for (int k = 0; k < 4; k++) {
            check.due("word " + word + ": register " + k, rig.cores.register(0, k), dues[k]);
        }
    }

    private static void signedNumber(Check check) {
        for (int n : new int[] {0, 1, -1, MOST_N, LEAST_N}) {
            Rig rig = Rig.ready(1 | 1 << 4 | 3 << 8 | 3 << 6 | n << 10, 5, 6, 7, 8);
            check.due("A = " + n + ": step(0)", rig.cores.step(0), 1);
            check.due("A = " + n, rig.cores.register(0, 1), n);
        }
    }
}

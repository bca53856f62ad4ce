/** The edges that "Terms" names of a CPU's instructions. */
public final class InstructionEdgesTest {
    private static final int LEAST = Integer.MIN_VALUE;
    private static final int MOST = Integer.MAX_VALUE;
    private static final int LEAST_N = -(1 << 21);
    private static final int MOST_N = (1 << 21) - 1;
    private static final int LOAD = 9;
    private static final int STORE = 10;
    private static final int SWAP = 11;

    public static void main(String[] args) {
        Sentences sentences = new Sentences().of("Terms");
        sentences.holds("0 HALT (its PLACE is the next one then, too).", InstructionEdgesTest::haltsPlace);
        sentences.holds("1 A = N.", InstructionEdgesTest::setsToNumber);
        sentences.holds("2 A = B + C. 3 A = B - C. 4 A = B * C. 5 A = B + N.", InstructionEdgesTest::oneRegister);
        sentences.holds("6 A = the CPU's number.", InstructionEdgesTest::cpuNumber);
        sentences.holds("7 goes to place N if A is 0.", InstructionEdgesTest::goesIfZero);
        sentences.holds("8 goes to place N.", InstructionEdgesTest::goes);
        sentences.holds("9 LOAD: A = the word at B + N.", InstructionEdgesTest::loadsFirstAndLast);
        sentences.holds("10 STORE: the word at B + N becomes A.", InstructionEdgesTest::storesFirstAndLast);
        sentences.holds("if the word at B + N is C, it becomes A, and A is 1 then", InstructionEdgesTest::swapFinds);
        sentences.holds("otherwise A is 0 then", InstructionEdgesTest::swapFindsNot);
        sentences.holds("(B + N wraps.)", InstructionEdgesTest::addressWraps);
        sentences.holds("Others", InstructionEdgesTest::otherOperations);
        sentences.holds("a PLACE that is not 0 .. CODE - 1 when the CPU goes on", InstructionEdgesTest::noSuchPlace);
        sentences.holds("(7 and 8 may go there)", InstructionEdgesTest::mayGoOutside);
        sentences.holds("an address that is not in the memory", InstructionEdgesTest::noSuchAddress);
        sentences.holds("TRAPPED, nothing else happens.", InstructionEdgesTest::nothingElseHappens);
        sentences.holds("LOAD can be done when the line is in its slot in any state but INVALID.",
            InstructionEdgesTest::loadCanBeDone);
        sentences.holds("STORE and SWAP when it is there EXCLUSIVE or MODIFIED", InstructionEdgesTest::storeCanBeDone);
        sentences.holds("which makes it MODIFIED (a SWAP that changes nothing, too)",
            InstructionEdgesTest::makesModified);
        sentences.holds("When it can not, the CPU WAITS", InstructionEdgesTest::waits);
        sentences.holds("READ for LOAD, OWN for STORE and SWAP, for this line", InstructionEdgesTest::requests);
        sentences.end();
    }

    private static void haltsPlace(Check check) {
        for (int code : new int[] {1, 2, 32}) {
            SnoopingCores x = new SnoopingCores(1, 1, 1, 1, code);
            x.load(0, 0, Words.go(code - 1));
            x.load(0, code - 1, Words.HALT);
            for (int i = 0; i < 2 && x.cpu(0, 1) == 0; i++) {
                x.step(0);
            }
            check.due("place after HALT at the last place of " + code, x.cpu(0, 0), code);
            check.due("its status", x.cpu(0, 1), 2);
            check.due("step(0), though its place is outside", x.step(0), 3);
        }
        SnoopingCores x = new SnoopingCores(1, 1, 1, 1, 2);
        x.step(0);
        check.due("place after HALT at place 0", x.cpu(0, 0), 1);
    }

    private static void setsToNumber(Check check) {
        for (int n : new int[] {LEAST_N, -1, 0, 1, MOST_N}) {
            for (int a = 0; a < 4; a++) {
                Rig rig = Rig.ready(Words.set(a, n), 5, 6, 7, 8).done(0, 1);
                for (int k = 0; k < 4; k++) {
                    int due = k == a ? n : 5 + k;
                    check.due("register " + k + " after " + a + " = " + n, rig.cores.register(0, k), due);
                }
            }
        }
    }

    /** A, B and C may be the same register: what it was is used before it changes. */
    private static void oneRegister(Check check) {
        for (int k = 0; k < 4; k++) {
            int[][] dues = {{Words.add(k, k, k), 2 * (5 + k)}, {Words.subtract(k, k, k), 0},
                {Words.multiply(k, k, k), (5 + k) * (5 + k)}, {Words.addNumber(k, k, -9), k - 4}};
            for (int[] due : dues) {
                Rig rig = Rig.ready(due[0], 5, 6, 7, 8).done(0, 1);
                check.due("register " + k + " after word " + due[0], rig.cores.register(0, k), due[1]);
                check.due("the next register", rig.cores.register(0, (k + 1) % 4), 5 + (k + 1) % 4);
            }
        }
    }

    private static void loadsFirstAndLast(Check check) {
        for (int address : new int[] {0, 3, 4, 63}) {
            Rig rig = new Rig(1, 2, 4, 64).numbered();
            rig.code(0, Words.set(1, address - 7), Words.load(2, 1, 7), Words.load(1, 1, 7)).done(0, 2);
            check.due("A of LOAD at " + address, rig.cores.register(0, 2), 100 + address);
            check.due("B of LOAD at " + address, rig.cores.register(0, 1), address - 7);
            rig.done(0, 1);
            check.due("A of LOAD when it is B", rig.cores.register(0, 1), 100 + address);
            check.due("the word", rig.cores.peek(address), 100 + address);
        }
    }

    private static void storesFirstAndLast(Check check) {
        for (int address : new int[] {0, 3, 4, 63}) {
            Rig rig = new Rig(1, 2, 4, 64).numbered();
            rig.code(0, Words.set(1, address - 7), Words.store(1, 1, 7)).done(0, 2);
            check.due("register of STORE at " + address, rig.cores.register(0, 1), address - 7);
            for (int a : new int[] {0, 3, 4, 5, 62, 63}) {
                check.due("the word at " + a, rig.cores.peek(a), a == address ? address - 7 : 100 + a);
            }
        }
    }

    private static void cpuNumber(Check check) {
        Rig rig = new Rig(4, 1, 1, 1);
        for (int cpu = 0; cpu < 4; cpu++) {
            rig.code(cpu, Words.set(1, 9), Words.ownNumber(1));
        }
        for (int cpu = 0; cpu < 4; cpu++) {
            rig.done(cpu, 2);
            check.due("number of CPU " + cpu, rig.cores.register(cpu, 1), cpu);
        }
    }

    private static void goesIfZero(Check check) {
        for (int a : new int[] {1, -1, LEAST, MOST, 1 << 16}) {
            Rig rig = Rig.ready(Words.goIfZero(2, 9), 0, 0, a, 0);
            check.due("A is " + a + ": step(0)", rig.cores.step(0), 1);
            check.due("A is " + a + ": place", rig.cores.cpu(0, 0), 5);
        }
        Rig rig = Rig.ready(Words.goIfZero(2, 9), 1, 1, 0, 1);
        check.due("A is 0: step(0)", rig.cores.step(0), 1);
        check.due("A is 0: place", rig.cores.cpu(0, 0), 9);
        check.due("A stays", rig.cores.register(0, 2), 0);
    }

    private static void goes(Check check) {
        for (int place : new int[] {0, 4, 5, 31}) {
            Rig rig = Rig.ready(Words.go(place), 1, 1, 1, 1);
            check.due("to " + place + ": step(0)", rig.cores.step(0), 1);
            check.due("to " + place + ": place", rig.cores.cpu(0, 0), place);
            check.due("to " + place + ": instructions", rig.cores.cpu(0, 2), 5);
        }
    }

    private static void swapFinds(Check check) {
        for (int word : new int[] {0, 1, -1, LEAST, MOST}) {
            Rig rig = Rig.ready(Words.swap(1, 3, 2, 2), 0, 77, word, 0);
            rig.done(0, 1);
            check.due("the word, that was C", rig.cores.peek(2), 77);
            check.due("A", rig.cores.register(0, 1), 1);
            check.due("C", rig.cores.register(0, 2), word);
        }
        Rig same = Rig.ready(Words.swap(2, 3, 2, 2), 0, 0, 55, 0).done(0, 1);
        check.due("the word, when A and C are one register", same.cores.peek(2), 55);
        check.due("A", same.cores.register(0, 2), 1);
    }

    private static void swapFindsNot(Check check) {
        for (int word : new int[] {0, 1, -1, LEAST, MOST}) {
            Rig rig = Rig.ready(Words.swap(1, 3, 0, 2), word + 1, 77, word, 0);
            rig.done(0, 1);
            check.due("the word, that was not C", rig.cores.peek(2), word);
            check.due("A", rig.cores.register(0, 1), 0);
            check.due("C", rig.cores.register(0, 0), word + 1);
        }
    }

    private static void addressWraps(Check check) {
        for (int operation = LOAD; operation <= SWAP; operation++) {
            String when = "operation " + operation + " at ";
            check.due(when + "most + 1", at(operation, MOST, 1).step(0), 4);
            check.due(when + "most + most N", at(operation, MOST, MOST_N).step(0), 4);
            check.due(when + "least - 1", at(operation, LEAST, -1).step(0), 4);
            check.due(when + "least + least N", at(operation, LEAST, LEAST_N).step(0), 4);
            check.due(when + "-1 + 1", at(operation, -1, 1).step(0), 1);
            check.due(when + "-2097147 + most N", at(operation, 4 - MOST_N, MOST_N).step(0), 2);
            check.due(when + "2097153 + least N", at(operation, 1 - LEAST_N, LEAST_N).step(0), 1);
        }
    }

    /** One CPU with line 0, words 0 to 3, EXCLUSIVE, that is to use the address base + n. */
    private static SnoopingCores at(int operation, int base, int n) {
        return Rig.ready(Words.word(operation, 0, 1, 2, n), 0, base, 0, 0).cores;
    }

    private static void otherOperations(Check check) {
        for (int operation = 0; operation < 16; operation++) {
            SnoopingCores x = at(operation, 0, 0);
            int answer = x.step(0);
            check.due("operation " + operation + " is TRAPPED", answer == 4, operation > 11);
            check.due("its status", x.cpu(0, 1) == 3, operation > 11);
        }
    }

    private static void noSuchPlace(Check check) {
        for (int code : new int[] {2, 31, 32}) {
            for (int place : new int[] {-1, code, code + 1, LEAST_N, MOST_N}) {
                check.due("going on at " + place + " of " + code, gone(code, place).step(0), 4);
            }
            for (int place : new int[] {1, code - 1}) {
                check.due("going on at " + place + " of " + code, gone(code, place).step(0), 3);
            }
        }
        SnoopingCores x = new SnoopingCores(1, 1, 1, 1, 1);
        x.load(0, 0, Words.set(0, 1));
        check.due("the last place", x.step(0), 1);
        check.due("beyond it", x.step(0), 4);
    }

    /** A CPU that has just gone to this place. */
    private static SnoopingCores gone(int code, int place) {
        SnoopingCores x = new SnoopingCores(1, 1, 1, 1, code);
        x.load(0, 0, Words.go(place));
        x.step(0);
        return x;
    }

    private static void mayGoOutside(Check check) {
        for (int place : new int[] {-1, 32, LEAST_N, MOST_N}) {
            for (int instruction : new int[] {Words.go(place), Words.goIfZero(2, place)}) {
                Rig rig = Rig.ready(instruction, 1, 1, 0, 1);
                check.due("going to " + place, rig.cores.step(0), 1);
                check.due("its place", rig.cores.cpu(0, 0), place);
                check.due("its status", rig.cores.cpu(0, 1), 0);
                check.due("its instructions", rig.cores.cpu(0, 2), 5);
            }
        }
    }

    /** Line 0 is in the cache, so that -1 must not be taken for a word of it; 8 words are there. */
    private static void noSuchAddress(Check check) {
        for (int operation = LOAD; operation <= SWAP; operation++) {
            for (int address : new int[] {-1, -3, -4, 8, 9, 63, 64, LEAST_N, MOST_N}) {
                check.due("operation " + operation + " at " + address, at(operation, 0, address).step(0), 4);
            }
            for (int address : new int[] {0, 3}) {
                check.due("operation " + operation + " at " + address, at(operation, 0, address).step(0), 1);
            }
            for (int address : new int[] {4, 7}) {
                check.due("operation " + operation + " at " + address, at(operation, 0, address).step(0), 2);
            }
        }
    }

    private static void nothingElseHappens(Check check) {
        int[] instructions = {12, 13 | 2 << 4, 14 | -1 << 10, 15, Words.load(1, 3, -1), Words.load(1, 3, 8),
            Words.store(1, 3, -1), Words.store(1, 3, 8), Words.swap(1, 3, 2, -1), Words.swap(1, 3, 2, 8)};
        for (int instruction : instructions) {
            Rig rig = Rig.ready(instruction, 11, 12, 13, 0);
            trapChangesTheStatusAlone(check, "instruction " + instruction, rig);
        }
        Rig rig = Rig.ready(Words.go(-1), 11, 12, 13, 0).done(0, 1);
        trapChangesTheStatusAlone(check, "going on at -1", rig);
    }

    private static void trapChangesTheStatusAlone(Check check, String when, Rig rig) {
        int place = rig.cores.cpu(0, 0);
        String before = rig.everything();
        for (int times = 0; times < 2; times++) {
            check.due(when + ": step(0)", rig.cores.step(0), 4);
            check.due(when + ": status", rig.cores.cpu(0, 1), 3);
            check.due(when + ": bus()", rig.cores.bus(), 0);
        }
        String status = place + " " + rig.cores.register(0, 0) + " 0 ";
        String trapped = place + " " + rig.cores.register(0, 0) + " 3 ";
        check.due(when + ": it ran before", before.startsWith(status), true);
        check.same(when, trapped + before.substring(status.length()), rig.everything());
    }

    /** CPU 0 with line 1 in this state, whose next instruction is this one; for a change of it, CPU 1 reads. */
    private static Rig holding(int state, int instruction) {
        Rig rig = new Rig(2, 1, 2, 8).numbered();
        boolean stores = state == Rig.MODIFIED || state == Rig.OWNED;
        int first = stores ? Words.store(3, 3, 2) : Words.load(0, 3, 2);
        rig.code(0, first, instruction).code(1, Words.load(0, 3, 2));
        rig.done(0, 1);
        if (state == Rig.SHARED || state == Rig.OWNED) {
            rig.done(1, 1);
        }
        if (state == Rig.INVALID) {
            rig.cores.evict(0, 0);
        }
        if (rig.stateOf(0, 0) != state) {
            throw new IllegalStateException("state " + state + " was not come to");
        }
        return rig;
    }

    private static void loadCanBeDone(Check check) {
        for (int state = Rig.INVALID; state <= Rig.MODIFIED; state++) {
            Rig rig = holding(state, Words.load(1, 3, 3));
            check.due("LOAD in state " + state, rig.cores.step(0), state == Rig.INVALID ? 2 : 1);
            check.due("its register", rig.cores.register(0, 1), state == Rig.INVALID ? 0 : 103);
            check.due("the state then", rig.stateOf(0, 0), state);
        }
        check.due("LOAD of another line of the slot", holding(Rig.MODIFIED, Words.load(1, 3, 4)).cores.step(0), 2);
    }

    private static void storeCanBeDone(Check check) {
        for (int instruction : new int[] {Words.store(1, 3, 3), Words.swap(1, 3, 2, 3)}) {
            for (int state = Rig.INVALID; state <= Rig.MODIFIED; state++) {
                boolean can = state == Rig.EXCLUSIVE || state == Rig.MODIFIED;
                Rig rig = holding(state, instruction);
                check.due("word " + instruction + " in state " + state, rig.cores.step(0), can ? 1 : 2);
            }
        }
        check.due("STORE in another line of the slot", holding(Rig.MODIFIED, Words.store(1, 3, 4)).cores.step(0), 2);
        check.due("SWAP in another line of the slot", holding(Rig.EXCLUSIVE, Words.swap(1, 3, 2, 1)).cores.step(0), 2);
    }

    private static void makesModified(Check check) {
        int storeOfTheSame = Words.store(0, 3, 2);
        int swapThatFinds = Words.swap(0, 3, 0, 2);
        int swapThatFindsNot = Words.swap(1, 3, 1, 2);
        for (int instruction : new int[] {storeOfTheSame, swapThatFinds, swapThatFindsNot}) {
            Rig rig = holding(Rig.EXCLUSIVE, instruction);
            check.due("word " + instruction + ": step(0)", rig.cores.step(0), 1);
            check.due("word " + instruction + ": state", rig.stateOf(0, 0), Rig.MODIFIED);
            check.due("word " + instruction + ": the word", rig.cores.slot(0, 0, 2), 102);
        }
    }

    private static void waits(Check check) {
        for (int instruction : new int[] {Words.load(1, 3, 3), Words.store(1, 3, 3), Words.swap(1, 3, 2, 3)}) {
            Rig rig = holding(Rig.INVALID, instruction);
            check.due("word " + instruction + ": step(0)", rig.cores.step(0), 2);
            check.due("word " + instruction + ": status", rig.cores.cpu(0, 1), 1);
            check.due("word " + instruction + ": place", rig.cores.cpu(0, 0), 1);
            check.due("word " + instruction + ": instructions", rig.cores.cpu(0, 2), 1);
            check.due("word " + instruction + ": register", rig.cores.register(0, 1), 0);
            check.due("word " + instruction + ": the other's status", rig.cores.cpu(1, 1), 0);
        }
    }

    private static void requests(Check check) {
        int[][] dues = {{LOAD, 1}, {STORE, 2}, {SWAP, 2}};
        for (int[] due : dues) {
            for (int address : new int[] {0, 3, 4, 7}) {
                Rig rig = new Rig(1, 1, 4, 8).code(0, Words.word(due[0], 1, 3, 2, address));
                check.due("request before", rig.cores.cpu(0, 3), 0);
                rig.cores.step(0);
                check.due("request of operation " + due[0], rig.cores.cpu(0, 3), due[1]);
                check.due("its line for address " + address, rig.cores.cpu(0, 4), address / 4);
            }
        }
    }
}

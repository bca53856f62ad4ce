/** Promise 4: a CPU goes on. */
public final class StepTest {
    private static final Check CHECK = new Check();
    private static final int MOST_N = (1 << 21) - 1;
    private static final int LEAST_N = -(1 << 21);

    public static void main(String[] args) {
        numbers();
        everyRegisterField();
        wrapping();
        farAddresses();
        goingToPlaces();
        halting();
        unknownOperations();
        placesOutside();
        addressesOutside();
        loads();
        stores();
        swaps();
        waiting();
        askingAgain();
        wrongInputs();
        CHECK.end();
    }

    private static void numbers() {
        Rig rig = new Rig(3, 1, 1, 4).code(2,
            Words.set(1, 6), Words.set(2, -4), Words.add(0, 1, 2), Words.subtract(3, 1, 2),
            Words.multiply(0, 1, 2), Words.addNumber(0, 1, -9), Words.ownNumber(3),
            Words.set(0, MOST_N), Words.set(0, LEAST_N), Words.addNumber(1, 1, 1));
        int[] register = {1, 2, 0, 3, 0, 0, 3, 0, 0, 1};
        int[] due = {6, -4, 2, 10, -24, -3, 2, MOST_N, LEAST_N, 7};
        for (int i = 0; i < due.length; i++) {
            CHECK.due("step(2) at place " + i, rig.cores.step(2), 1);
            CHECK.due("the result at place " + i, rig.cores.register(2, register[i]), due[i]);
            CHECK.due("the place after " + i, rig.cores.cpu(2, 0), i + 1);
        }
        CHECK.due("register(2, 2), not changed later", rig.cores.register(2, 2), -4);
    }

    private static void everyRegisterField() {
        for (int b = 0; b < 4; b++) {
            for (int c = 0; c < 4; c++) {
                for (int a = 0; a < 4; a++) {
                    Rig rig = new Rig(1, 1, 1, 4).code(0, Words.set(0, 1), Words.set(1, 10),
                        Words.set(2, 100), Words.set(3, 1000), Words.subtract(a, b, c));
                    rig.done(0, 5);
                    int[] due = {1, 10, 100, 1000};
                    due[a] = due[b] - due[c];
                    for (int k = 0; k < 4; k++) {
                        String what = "register " + k + " after " + a + " = " + b + " - " + c;
                        CHECK.due(what, rig.cores.register(0, k), due[k]);
                    }
                }
            }
        }
    }

    private static void wrapping() {
        Rig rig = new Rig(1, 1, 1, 4).numbered();
        rig.cores.poke(0, Integer.MAX_VALUE);
        rig.cores.poke(1, Integer.MIN_VALUE);
        rig.code(0, Words.load(0, 2, 0), Words.load(1, 2, 1), Words.set(3, 1),
            Words.add(2, 0, 3), Words.subtract(2, 1, 3), Words.multiply(2, 0, 0),
            Words.addNumber(2, 1, -1));
        rig.done(0, 4);
        CHECK.due("most + 1", rig.cores.register(0, 2), Integer.MIN_VALUE);
        rig.done(0, 1);
        CHECK.due("least - 1", rig.cores.register(0, 2), Integer.MAX_VALUE);
        rig.done(0, 1);
        CHECK.due("most * most", rig.cores.register(0, 2), 1);
        rig.done(0, 1);
        CHECK.due("least + -1", rig.cores.register(0, 2), Integer.MAX_VALUE);
    }

    /** What B + N comes to when the register is far from the memory or below it. */
    private static void farAddresses() {
        CHECK.due("LOAD at most + 1", loadAfterBase(Integer.MAX_VALUE, 1).step(0), 4);
        CHECK.due("LOAD at least - 1", loadAfterBase(Integer.MIN_VALUE, -1).step(0), 4);
        CHECK.due("LOAD at least + 63", loadAfterBase(Integer.MIN_VALUE, 63).step(0), 4);
        CHECK.due("LOAD at -5 + 4", loadAfterBase(-5, 4).step(0), 4);
        CHECK.due("LOAD at -5 + 69", loadAfterBase(-5, 69).step(0), 4);
        SnoopingCores x = loadAfterBase(-5, 68);
        CHECK.due("LOAD at -5 + 68", x.step(0), 2);
        CHECK.due("the line that it asks for", x.cpu(0, 4), 63);
        x = loadAfterBase(MOST_N + 1, LEAST_N);
        CHECK.due("LOAD at 2097152 - 2097152", x.step(0), 1);
        CHECK.due("what it found", x.register(0, 3), MOST_N + 1);
    }

    /** A CPU whose next instruction loads from base + n; its base lies at address 0. */
    private static SnoopingCores loadAfterBase(int base, int n) {
        Rig rig = new Rig(1, 1, 1, 64);
        rig.cores.poke(0, base);
        rig.code(0, Words.load(1, 0, 0), Words.load(3, 1, n));
        return rig.done(0, 1).cores;
    }

    private static void goingToPlaces() {
        Rig rig = new Rig(1, 1, 1, 4).code(0, Words.goIfZero(2, 3), 15, 15, Words.set(2, 5),
            Words.goIfZero(2, 1), Words.set(1, -3), Words.goIfZero(1, 1), Words.go(9), 15, Words.go(0));
        int[] places = {3, 4, 5, 6, 7, 9, 0, 1};
        for (int i = 0; i < places.length; i++) {
            CHECK.due("step " + i, rig.cores.step(0), 1);
            CHECK.due("the place after step " + i, rig.cores.cpu(0, 0), places[i]);
            if (i == 6) {
                CHECK.due("instructions", rig.cores.cpu(0, 2), 7);
            }
        }
    }

    private static void halting() {
        SnoopingCores x = new SnoopingCores(2, 1, 1, 4, 2);
        x.load(0, 0, Words.set(0, 1));
        x.load(0, 1, Words.word(0, 3, 2, 1, -1));
        CHECK.due("step(0)", x.step(0), 1);
        CHECK.due("step(0), HALT at the last place", x.step(0), 3);
        CHECK.due("its place", x.cpu(0, 0), 2);
        CHECK.due("its status", x.cpu(0, 1), 2);
        CHECK.due("its instructions", x.cpu(0, 2), 2);
        CHECK.due("step(0), halted before", x.step(0), 3);
        CHECK.due("its place", x.cpu(0, 0), 2);
        CHECK.due("its instructions", x.cpu(0, 2), 2);
        CHECK.due("the other's status", x.cpu(1, 1), 0);
    }

    private static void unknownOperations() {
        for (int operation = 12; operation < 16; operation++) {
            for (int rest = -1; rest <= 1; rest++) {
                Rig rig = new Rig(1, 1, 1, 4).code(0, Words.set(1, 3), operation | rest << 4);
                rig.cores.step(0);
                trapsAtPlaceOne("operation " + operation, rig.cores);
            }
        }
    }

    private static void trapsAtPlaceOne(String what, SnoopingCores x) {
        for (int times = 0; times < 2; times++) {
            CHECK.due(what + ": step(0)", x.step(0), 4);
            CHECK.due(what + ": its place", x.cpu(0, 0), 1);
            CHECK.due(what + ": its status", x.cpu(0, 1), 3);
            CHECK.due(what + ": its instructions", x.cpu(0, 2), 1);
            CHECK.due(what + ": its request", x.cpu(0, 3), 0);
            CHECK.due(what + ": its request's line", x.cpu(0, 4), -1);
            CHECK.due(what + ": its register", x.register(0, 1), 3);
            CHECK.due(what + ": the bus", x.bus(), 0);
        }
    }

    private static void placesOutside() {
        int[] outside = {-1, 4, LEAST_N, MOST_N};
        for (int place : outside) {
            SnoopingCores x = new SnoopingCores(1, 1, 1, 4, 4);
            x.load(0, 0, Words.go(place));
            CHECK.due("going to " + place, x.step(0), 1);
            CHECK.due("its status", x.cpu(0, 1), 0);
            CHECK.due("going on at " + place, x.step(0), 4);
            CHECK.due("its place", x.cpu(0, 0), place);
            CHECK.due("its instructions", x.cpu(0, 2), 1);
        }
        SnoopingCores x = new SnoopingCores(1, 1, 1, 4, 1);
        x.load(0, 0, Words.goIfZero(3, -7));
        CHECK.due("going to -7 if zero", x.step(0), 1);
        CHECK.due("going on at -7", x.step(0), 4);
        x = new SnoopingCores(1, 1, 1, 4, 1);
        x.load(0, 0, Words.set(0, 1));
        CHECK.due("the last place", x.step(0), 1);
        CHECK.due("beyond the last place", x.step(0), 4);
        CHECK.due("its place", x.cpu(0, 0), 1);
    }

    private static void addressesOutside() {
        for (int operation = 9; operation <= 11; operation++) {
            for (int n : new int[] {-1, 6, 7, 63, 64, LEAST_N, MOST_N}) {
                SnoopingCores x = new SnoopingCores(1, 2, 3, 8, 4);
                x.load(0, 0, Words.set(1, 3));
                x.load(0, 1, Words.word(operation, 1, 0, 0, n));
                x.step(0);
                trapsAtPlaceOne("operation " + operation + " at " + n, x);
            }
            SnoopingCores x = new SnoopingCores(1, 2, 3, 8, 4);
            x.load(0, 0, Words.set(1, 3));
            x.load(0, 1, Words.word(operation, 1, 1, 0, 2));
            x.step(0);
            CHECK.due("operation " + operation + " at 5", x.step(0), 2);
            CHECK.due("its line", x.cpu(0, 4), 1);
        }
    }

    private static void loads() {
        Rig rig = new Rig(2, 2, 2, 16).numbered();
        rig.code(0, Words.load(0, 3, 5), Words.load(1, 3, 4), Words.store(3, 3, 4),
            Words.load(1, 3, 4), Words.load(1, 3, 5));
        rig.code(1, Words.load(2, 3, 5), Words.load(2, 3, 4));
        SnoopingCores x = rig.cores;
        CHECK.due("LOAD, INVALID", x.step(0), 2);
        CHECK.due("its request", x.cpu(0, 3), 1);
        rig.finishBus();
        CHECK.due("LOAD, EXCLUSIVE", x.step(0), 1);
        CHECK.due("its register", x.register(0, 0), 105);
        CHECK.due("LOAD of the line's other word", x.step(0), 1);
        CHECK.due("its register", x.register(0, 1), 104);
        CHECK.due("the state that it leaves", rig.stateOf(0, 0), Rig.EXCLUSIVE);
        x.step(0);
        CHECK.due("LOAD, MODIFIED", x.step(0), 1);
        CHECK.due("its register", x.register(0, 1), 0);
        CHECK.due("the state that it leaves", rig.stateOf(0, 0), Rig.MODIFIED);
        rig.done(1, 1);
        CHECK.due("LOAD, OWNED", x.step(0), 1);
        CHECK.due("its register", x.register(0, 1), 105);
        CHECK.due("the state that it leaves", rig.stateOf(0, 0), Rig.OWNED);
        CHECK.due("LOAD, SHARED", x.step(1), 1);
        CHECK.due("its register", x.register(1, 2), 0);
        CHECK.due("the state that it leaves", rig.stateOf(1, 0), Rig.SHARED);
        loadOfAnotherLine();
    }

    private static void loadOfAnotherLine() {
        Rig rig = new Rig(1, 2, 2, 16).numbered();
        rig.code(0, Words.load(0, 3, 5), Words.load(0, 3, 9)).done(0, 1);
        CHECK.due("LOAD, another line in the slot", rig.cores.step(0), 2);
        CHECK.due("its request's line", rig.cores.cpu(0, 4), 4);
        CHECK.due("the line that stays for now", rig.lineOf(0, 0), 2);
    }

    private static void stores() {
        Rig rig = new Rig(2, 1, 2, 8).numbered();
        rig.code(0, Words.load(0, 3, 2), Words.set(1, 7), Words.store(1, 3, 3), Words.set(1, 8),
            Words.store(1, 3, 2), Words.store(1, 3, 3));
        rig.code(1, Words.load(0, 3, 2), Words.store(3, 3, 2));
        SnoopingCores x = rig.cores;
        rig.done(0, 2);
        CHECK.due("STORE, EXCLUSIVE", x.step(0), 1);
        CHECK.due("the state then", rig.stateOf(0, 0), Rig.MODIFIED);
        CHECK.due("the word then", x.slot(0, 0, 3), 7);
        CHECK.due("the line's other word then", x.slot(0, 0, 2), 102);
        CHECK.due("the memory's word then", x.memory(3), 103);
        x.step(0);
        CHECK.due("STORE, MODIFIED", x.step(0), 1);
        CHECK.due("the word then", x.slot(0, 0, 2), 8);
        CHECK.due("the register then", x.register(0, 1), 8);
        rig.done(1, 1);
        CHECK.due("STORE, OWNED", x.step(0), 2);
        CHECK.due("its request", x.cpu(0, 3), 2);
        CHECK.due("STORE, SHARED", x.step(1), 2);
        CHECK.due("its request", x.cpu(1, 3), 2);
        CHECK.due("its request's line", x.cpu(1, 4), 1);
        CHECK.due("the word that it did not change", x.slot(1, 0, 2), 8);
        storeOfAnotherLine();
    }

    private static void storeOfAnotherLine() {
        Rig rig = new Rig(1, 1, 1, 8).code(0, Words.store(0, 3, 3), Words.store(0, 3, 4));
        CHECK.due("STORE, INVALID", rig.cores.step(0), 2);
        rig.done(0, 1);
        CHECK.due("STORE, another line in the slot", rig.cores.step(0), 2);
        CHECK.due("its request's line", rig.cores.cpu(0, 4), 4);
    }

    private static void swaps() {
        Rig rig = new Rig(2, 1, 2, 8).numbered();
        rig.code(0, Words.load(0, 3, 3), Words.set(1, 50), Words.set(2, 103),
            Words.swap(1, 3, 0, 2), Words.swap(2, 3, 0, 3));
        rig.done(0, 3);
        SnoopingCores x = rig.cores;
        CHECK.due("SWAP that finds another word", x.step(0), 1);
        CHECK.due("A then", x.register(0, 1), 0);
        CHECK.due("C then", x.register(0, 0), 103);
        CHECK.due("the word then", x.slot(0, 0, 2), 102);
        CHECK.due("the state then", rig.stateOf(0, 0), Rig.MODIFIED);
        CHECK.due("SWAP of a word with itself", x.step(0), 1);
        CHECK.due("A then", x.register(0, 2), 1);
        CHECK.due("the word then", x.slot(0, 0, 3), 103);
        CHECK.due("instructions", x.cpu(0, 2), 5);
        CHECK.due("place", x.cpu(0, 0), 5);

        rig = new Rig(2, 1, 2, 8).numbered();
        rig.code(0, Words.load(0, 3, 3), Words.set(1, 50), Words.swap(1, 3, 0, 3), Words.swap(1, 1, 1, 2));
        rig.code(1, Words.load(0, 3, 3), Words.swap(1, 3, 0, 3));
        x = rig.cores;
        rig.done(0, 2);
        CHECK.due("SWAP that finds C", x.step(0), 1);
        CHECK.due("A then", x.register(0, 1), 1);
        CHECK.due("C then", x.register(0, 0), 103);
        CHECK.due("the word then", x.slot(0, 0, 3), 50);
        CHECK.due("the state then", rig.stateOf(0, 0), Rig.MODIFIED);
        rig.done(1, 1);
        CHECK.due("SWAP, OWNED", x.step(0), 2);
        CHECK.due("its request", x.cpu(0, 3), 2);
        CHECK.due("SWAP, SHARED", x.step(1), 2);
        CHECK.due("its request", x.cpu(1, 3), 2);
        CHECK.due("A, while it waits", x.register(0, 1), 1);
        swapsWithOneRegister();
    }

    private static void swapsWithOneRegister() {
        Rig rig = new Rig(1, 1, 1, 4);
        rig.cores.poke(2, 2);
        rig.code(0, Words.set(1, 2), Words.swap(1, 1, 1, 0), Words.swap(1, 1, 1, 1)).done(0, 2);
        CHECK.due("SWAP with A, B and C the same", rig.cores.register(0, 1), 1);
        CHECK.due("the word then", rig.cores.peek(2), 2);
        rig.done(0, 1);
        CHECK.due("SWAP that finds 2, not 1", rig.cores.register(0, 1), 0);
        CHECK.due("the word then", rig.cores.peek(2), 2);
    }

    private static void waiting() {
        Rig rig = new Rig(2, 1, 1, 8).numbered().code(0, Words.load(0, 0, 5)).code(1, Words.store(0, 0, 6));
        SnoopingCores x = rig.cores;
        CHECK.due("step(0)", x.step(0), 2);
        CHECK.due("step(0), it waits for the bus", x.step(0), 2);
        CHECK.due("its request", x.cpu(0, 3), 1);
        x.bus();
        CHECK.due("step(0), requested", x.step(0), 2);
        CHECK.due("its request, taken", x.cpu(0, 3), 0);
        x.bus();
        CHECK.due("step(0), snooped", x.step(0), 2);
        CHECK.due("step(1), while the bus does another's", x.step(1), 2);
        x.bus();
        CHECK.due("step(0), supplied", x.step(0), 1);
        CHECK.due("step(1), its transaction has not begun", x.step(1), 2);
        CHECK.due("its instructions", x.cpu(1, 2), 0);
    }

    private static void askingAgain() {
        Rig rig = new Rig(1, 1, 1, 8).numbered().code(0, Words.load(0, 0, 5));
        SnoopingCores x = rig.cores;
        x.step(0);
        rig.finishBus();
        CHECK.due("evict(0, 0), before the instruction", x.evict(0, 0), 1);
        CHECK.due("step(0), the line is gone", x.step(0), 2);
        CHECK.due("its request", x.cpu(0, 3), 1);
        rig.finishBus();
        CHECK.due("step(0), the line is there", x.step(0), 1);
        CHECK.due("its instructions", x.cpu(0, 2), 1);
    }

    private static void wrongInputs() {
        SnoopingCores x = new SnoopingCores(2, 1, 1, 4, 4);
        for (int cpu : new int[] {-1, 2, 3, 4, Integer.MAX_VALUE, Integer.MIN_VALUE}) {
            CHECK.due("step(" + cpu + ")", x.step(cpu), -1);
        }
        CHECK.due("cpu(0, 2)", x.cpu(0, 2), 0);
        CHECK.due("load, no step was done", x.load(0, 0, 1), true);
    }
}

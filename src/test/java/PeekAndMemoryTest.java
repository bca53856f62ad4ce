/** Promises 10 and 11: the newest word, and the word of the memory itself. */
public final class PeekAndMemoryTest {
    private static final Check CHECK = new Check();

    public static void main(String[] args) {
        newestWord();
        otherLineOfTheSlot();
        whileATransactionGoesOn();
        wrongInputs();
        CHECK.end();
    }

    private static void stands(String when, SnoopingCores x, int address, int peek, int memory) {
        CHECK.due(when + ": peek(" + address + ")", x.peek(address), peek);
        CHECK.due(when + ": memory(" + address + ")", x.memory(address), memory);
    }

    private static void newestWord() {
        Rig rig = new Rig(4, 2, 2, 16).numbered();
        rig.code(2, Words.set(1, 7), Words.load(0, 3, 9), Words.store(1, 3, 9));
        rig.code(3, Words.load(0, 3, 9));
        stands("new", rig.cores, 9, 109, 109);
        rig.done(2, 2);
        stands("exclusive", rig.cores, 9, 109, 109);
        rig.done(2, 1);
        stands("modified", rig.cores, 9, 7, 109);
        stands("modified, the line's other word", rig.cores, 8, 108, 108);
        rig.done(3, 1);
        stands("owned and shared", rig.cores, 9, 7, 109);
        rig.cores.evict(3, 0);
        stands("owned", rig.cores, 9, 7, 109);
        rig.cores.evict(2, 0);
        stands("evicted", rig.cores, 9, 7, 7);
    }

    private static void otherLineOfTheSlot() {
        Rig rig = new Rig(1, 2, 2, 16).numbered();
        rig.code(0, Words.set(1, 7), Words.store(1, 3, 9)).done(0, 2);
        stands("a line of the same slot", rig.cores, 13, 113, 113);
        stands("a line of the other slot", rig.cores, 11, 111, 111);
    }

    private static void whileATransactionGoesOn() {
        Rig rig = new Rig(2, 1, 1, 4).numbered();
        rig.code(0, Words.set(1, 7), Words.store(1, 3, 2)).code(1, Words.store(0, 3, 2));
        rig.done(0, 2);
        rig.cores.step(1);
        rig.cores.bus();
        stands("requested", rig.cores, 2, 7, 102);
        rig.cores.bus();
        stands("snooped", rig.cores, 2, 7, 7);
        rig.cores.bus();
        stands("supplied", rig.cores, 2, 7, 7);
        rig.cores.step(1);
        stands("stored", rig.cores, 2, 0, 7);
    }

    private static void wrongInputs() {
        SnoopingCores x = new SnoopingCores(1, 1, 3, 8, 4);
        for (int a = 0; a < 6; a++) {
            x.poke(a, 50 + a);
        }
        int[] wrong = {-1, 6, 7, 8, 64, Integer.MAX_VALUE, Integer.MIN_VALUE};
        for (int address : wrong) {
            stands("no such address", x, address, 0, 0);
        }
        stands("the first", x, 0, 50, 50);
        stands("the last", x, 5, 55, 55);
    }
}

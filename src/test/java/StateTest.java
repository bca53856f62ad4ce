/** Promise 12: what the bus tells of itself. */
public final class StateTest {
    private static final Check CHECK = new Check();

    public static void main(String[] args) {
        readThenOwnWithWriteBack();
        wrongInputs();
        CHECK.end();
    }

    private static void stands(String when, SnoopingCores x, int... due) {
        for (int what = 0; what < due.length; what++) {
            CHECK.due(when + ": state(" + what + ")", x.state(what), due[what]);
        }
    }

    private static void readThenOwnWithWriteBack() {
        Rig rig = new Rig(3, 1, 1, 8);
        rig.code(2, Words.load(0, 0, 5), Words.store(0, 0, 5), Words.store(0, 0, 6));
        SnoopingCores x = rig.cores;
        x.step(2);
        stands("asked", x, 0, -1, 0, -1, 0, 0, 0, 0);
        x.bus();
        stands("read requested", x, 1, 2, 1, 5, 1, 0, 0, 0);
        x.bus();
        stands("read snooped", x, 3, 2, 1, 5, 1, 0, 1, 0);
        x.bus();
        stands("read supplied", x, 0, -1, 0, -1, 1, 0, 1, 1);
        x.bus();
        stands("nothing to do", x, 0, -1, 0, -1, 1, 0, 1, 1);
        x.step(2);
        x.step(2);
        x.step(2);
        x.bus();
        stands("own requested", x, 1, 2, 2, 6, 2, 0, 1, 1);
        x.bus();
        stands("written back", x, 2, 2, 2, 6, 2, 1, 1, 1);
        x.bus();
        stands("own snooped", x, 3, 2, 2, 6, 2, 1, 2, 1);
        x.bus();
        stands("own supplied", x, 0, -1, 0, -1, 2, 1, 2, 2);
    }

    private static void wrongInputs() {
        SnoopingCores x = new SnoopingCores(1, 1, 1, 1, 1);
        CHECK.due("state(-1)", x.state(-1), -1);
        CHECK.due("state(8)", x.state(8), -1);
        CHECK.due("state(most)", x.state(Integer.MAX_VALUE), -1);
        CHECK.due("state(least)", x.state(Integer.MIN_VALUE), -1);
    }
}

/** Promise 7: the registers. */
public final class RegisterTest {
    private static final Check CHECK = new Check();

    public static void main(String[] args) {
        Rig rig = new Rig(2, 1, 1, 4);
        rig.code(0, Words.set(0, 10), Words.set(1, 11), Words.set(2, 12), Words.set(3, 13));
        rig.code(1, Words.set(2, -5));
        rig.done(0, 4).done(1, 1);
        for (int k = 0; k < 4; k++) {
            CHECK.due("register(0, " + k + ")", rig.cores.register(0, k), 10 + k);
            CHECK.due("register(1, " + k + ")", rig.cores.register(1, k), k == 2 ? -5 : 0);
        }
        CHECK.due("register(0, -1)", rig.cores.register(0, -1), 0);
        CHECK.due("register(0, 4)", rig.cores.register(0, 4), 0);
        CHECK.due("register(-1, 0)", rig.cores.register(-1, 0), 0);
        CHECK.due("register(2, 0)", rig.cores.register(2, 0), 0);
        CHECK.due("register(most, most)", rig.cores.register(Integer.MAX_VALUE, Integer.MAX_VALUE), 0);
        CHECK.due("register(least, least)", rig.cores.register(Integer.MIN_VALUE, Integer.MIN_VALUE), 0);
        CHECK.end();
    }
}

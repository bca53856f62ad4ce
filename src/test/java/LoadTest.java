/** Promise 2: words come into a CPU's code until some CPU has stepped. */
public final class LoadTest {
    private static final Check CHECK = new Check();

    public static void main(String[] args) {
        wordsComeIntoTheCode();
        wrongPlaces();
        notAfterAStep();
        CHECK.end();
    }

    private static void wordsComeIntoTheCode() {
        SnoopingCores x = new SnoopingCores(2, 1, 1, 4, 3);
        CHECK.due("load(0, 0, ..)", x.load(0, 0, Words.set(0, 5)), true);
        CHECK.due("load(0, 0, ..) again", x.load(0, 0, Words.set(0, 6)), true);
        CHECK.due("load(1, 0, ..)", x.load(1, 0, Words.go(2)), true);
        CHECK.due("load(1, 2, ..)", x.load(1, 2, Words.set(3, 9)), true);
        x.step(0);
        x.step(1);
        x.step(1);
        CHECK.due("register(0, 0), set by the later word", x.register(0, 0), 6);
        CHECK.due("register(1, 0), of the other CPU", x.register(1, 0), 0);
        CHECK.due("register(1, 3), set at the last place", x.register(1, 3), 9);
    }

    private static void wrongPlaces() {
        SnoopingCores x = new SnoopingCores(2, 1, 1, 4, 3);
        CHECK.due("load(-1, 0, 1)", x.load(-1, 0, 1), false);
        CHECK.due("load(2, 0, 1)", x.load(2, 0, 1), false);
        CHECK.due("load(0, -1, 1)", x.load(0, -1, 1), false);
        CHECK.due("load(0, 3, 1)", x.load(0, 3, 1), false);
        CHECK.due("load(least, 0, 1)", x.load(Integer.MIN_VALUE, 0, 1), false);
        CHECK.due("load(0, most, 1)", x.load(0, Integer.MAX_VALUE, 1), false);
        CHECK.due("step(0), its code is still 0", x.step(0), 3);
    }

    private static void notAfterAStep() {
        SnoopingCores x = new SnoopingCores(2, 1, 1, 4, 3);
        x.step(-1);
        x.step(2);
        x.bus();
        x.evict(0, 0);
        CHECK.due("load before a step of any CPU", x.load(1, 0, Words.load(0, 0, 0)), true);
        x.step(1);
        CHECK.due("load after a step of another CPU", x.load(0, 0, Words.set(0, 1)), false);
        CHECK.due("load after a step of the CPU", x.load(1, 0, Words.set(0, 1)), false);
        CHECK.due("step(0), its code is still 0", x.step(0), 3);
    }
}

/** Promise 3: words come into the memory until some CPU has stepped. */
public final class PokeTest {
    private static final Check CHECK = new Check();

    public static void main(String[] args) {
        wordsComeIntoTheMemory();
        wrongAddresses();
        notAfterAStep();
        CHECK.end();
    }

    private static void wordsComeIntoTheMemory() {
        SnoopingCores x = new SnoopingCores(1, 1, 2, 6, 4);
        CHECK.due("poke(0, least)", x.poke(0, Integer.MIN_VALUE), true);
        CHECK.due("poke(5, most)", x.poke(5, Integer.MAX_VALUE), true);
        CHECK.due("poke(3, 1)", x.poke(3, 1), true);
        CHECK.due("poke(3, -2)", x.poke(3, -2), true);
        CHECK.due("memory(0)", x.memory(0), Integer.MIN_VALUE);
        CHECK.due("memory(5)", x.memory(5), Integer.MAX_VALUE);
        CHECK.due("memory(3)", x.memory(3), -2);
        CHECK.due("memory(4)", x.memory(4), 0);
    }

    private static void wrongAddresses() {
        SnoopingCores x = new SnoopingCores(1, 1, 3, 8, 4);
        CHECK.due("poke(-1, 1)", x.poke(-1, 1), false);
        CHECK.due("poke(5, 1)", x.poke(5, 1), true);
        CHECK.due("poke(6, 1), in a line that is not whole", x.poke(6, 1), false);
        CHECK.due("poke(8, 1)", x.poke(8, 1), false);
        CHECK.due("poke(most, 1)", x.poke(Integer.MAX_VALUE, 1), false);
        CHECK.due("poke(least, 1)", x.poke(Integer.MIN_VALUE, 1), false);
    }

    private static void notAfterAStep() {
        SnoopingCores x = new SnoopingCores(2, 1, 1, 4, 4);
        x.step(2);
        x.step(-1);
        x.bus();
        CHECK.due("poke before a step of any CPU", x.poke(0, 7), true);
        x.load(0, 0, 15);
        x.step(0);
        CHECK.due("poke after a step that was a trap", x.poke(0, 8), false);
        CHECK.due("memory(0)", x.memory(0), 7);
    }
}

import java.io.IOException;
import java.nio.file.Files;
import java.nio.file.Path;
import java.util.List;

/** The example in README.md: the calls and answers below stand in it as they are here. */
public final class ReadmeTest {
    private static final Check CHECK = new Check();

    public static void main(String[] args) throws IOException {
        exampleAnswersSo();
        exampleStandsThere(Files.readAllLines(Path.of("README.md")));
        CHECK.end();
    }

    private static void exampleAnswersSo() {
        SnoopingCores x = new SnoopingCores(2, 2, 2, 16, 8);
        CHECK.due("x.poke(5, 7)", x.poke(5, 7), true);
        CHECK.due("x.load(0, 0, 9 | 1 << 4 | 5 << 10)", x.load(0, 0, 9 | 1 << 4 | 5 << 10), true);
        CHECK.due("x.step(0)", x.step(0), 2);
        for (int phase : new int[] {1, 3, 4, 0}) {
            CHECK.due("x.bus()", x.bus(), phase);
        }
        CHECK.due("x.step(0) again", x.step(0), 1);
        CHECK.due("x.register(0, 1)", x.register(0, 1), 7);
        CHECK.due("x.slot(0, 0, 0)", x.slot(0, 0, 0), 2);
    }

    private static void exampleStandsThere(List<String> readme) {
        String[][] calls = {
            {"SnoopingCores x = new SnoopingCores(2, 2, 2, 16, 8);", ""},
            {"x.poke(5, 7);", "// true"},
            {"x.load(0, 0, 9 | 1 << 4 | 5 << 10);", "// true"},
            {"x.step(0);", "// 2"},
            {"while (x.bus() != 0) { }", "// 1, 3, 4"},
            {"x.step(0);", "// 1"},
            {"x.register(0, 1);", "// 7"},
            {"x.slot(0, 0, 0);", "// 2"}};
        int line = readme.indexOf(calls[0][0]);
        CHECK.due("README.md has the example", line >= 0, true);
        for (int i = 0; i < calls.length && line >= 0; i++) {
            String written = line + i < readme.size() ? readme.get(line + i) : "";
            boolean stands = written.startsWith(calls[i][0]) && written.contains(calls[i][1]);
            CHECK.due("README.md, line " + (line + i + 1) + ": " + calls[i][0] + " " + calls[i][1], stands, true);
        }
    }
}

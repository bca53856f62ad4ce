import java.lang.reflect.Constructor;
import java.lang.reflect.Field;
import java.lang.reflect.Method;
import java.lang.reflect.Modifier;
import java.util.Arrays;
import java.util.Random;
import java.util.TreeSet;

/** The public face, and that no call throws whatever it is given. */
public final class FaceTest {
    private static final Check CHECK = new Check();
    private static final int[] EDGES = {Integer.MIN_VALUE, Integer.MIN_VALUE + 1, -65, -1, 0, 1, 2, 3, 4, 5,
        7, 8, 31, 32, 63, 64, 1 << 30, Integer.MAX_VALUE - 1, Integer.MAX_VALUE};

    public static void main(String[] args) {
        faceIsTheDocuments();
        nothingElseIsSeen();
        noCallThrows();
        CHECK.end();
    }

    private static void faceIsTheDocuments() {
        TreeSet<String> due = new TreeSet<>(Arrays.asList("boolean load 3", "boolean poke 2", "int step 1",
            "int bus 0", "int evict 2", "int register 2", "int cpu 2", "int slot 3", "int peek 1",
            "int memory 1", "int state 1"));
        TreeSet<String> found = new TreeSet<>();
        for (Method method : SnoopingCores.class.getDeclaredMethods()) {
            if (Modifier.isPublic(method.getModifiers())) {
                found.add(method.getReturnType() + " " + method.getName() + " " + method.getParameterCount());
            }
        }
        CHECK.due("the public methods " + found, found.equals(due), true);
        CHECK.due("public and final", SnoopingCores.class.getModifiers(), Modifier.PUBLIC | Modifier.FINAL);
        Constructor<?>[] constructors = SnoopingCores.class.getDeclaredConstructors();
        CHECK.due("constructors", constructors.length, 1);
        CHECK.due("its numbers", constructors[0].getParameterCount(), 5);
    }

    private static void nothingElseIsSeen() {
        TreeSet<String> publicNames = new TreeSet<>();
        for (Method method : SnoopingCores.class.getMethods()) {
            publicNames.add(method.getName());
        }
        for (Method method : SnoopingCores.class.getDeclaredMethods()) {
            if (!Modifier.isPublic(method.getModifiers())) {
                CHECK.due(method + " is private", Modifier.isPrivate(method.getModifiers()), true);
                CHECK.due(method + " has a name of its own", publicNames.contains(method.getName()), false);
            }
        }
        for (Field field : SnoopingCores.class.getDeclaredFields()) {
            CHECK.due(field + " is private", Modifier.isPrivate(field.getModifiers()), true);
        }
        for (Class<?> inside : SnoopingCores.class.getDeclaredClasses()) {
            CHECK.due(inside + " is static", Modifier.isStatic(inside.getModifiers()), true);
        }
    }

    private static void noCallThrows() {
        Random random = new Random(1);
        for (int run = 0; run < 3000; run++) {
            String when = "run " + run;
            try {
                SnoopingCores x = new SnoopingCores(any(random), any(random), any(random), any(random), any(random));
                for (int call = 0; call < 512; call++) {
                    anyCall(random, x, call < 100);
                }
            } catch (RuntimeException e) {
                when = when + " threw " + e;
            }
            CHECK.due(when, when.contains("threw"), false);
        }
    }

    private static int any(Random random) {
        return random.nextInt(3) == 0 ? EDGES[random.nextInt(EDGES.length)] : random.nextInt(8);
    }

    /** Mostly instructions on low addresses, so that lines move; now and then any word at all. */
    private static int anyWord(Random random) {
        return random.nextInt(20) == 0 ? random.nextInt() : random.nextInt(1 << 14) & ~4;
    }

    private static int anyCall(Random random, SnoopingCores x, boolean prepares) {
        if (prepares) {
            return random.nextInt(4) != 0
                ? x.load(random.nextInt(4), random.nextInt(32), anyWord(random)) ? 1 : 0
                : x.poke(any(random), random.nextInt()) ? 1 : 0;
        }
        switch (random.nextInt(14)) {
            case 0:
                return x.load(any(random), any(random), random.nextInt()) ? 1 : 0;
            case 1:
                return x.poke(any(random), random.nextInt()) ? 1 : 0;
            case 2:
                return x.evict(any(random), any(random));
            case 3:
                return x.register(any(random), any(random));
            case 4:
                return x.cpu(any(random), any(random));
            case 5:
                return x.slot(any(random), any(random), any(random));
            case 6:
                return x.peek(any(random));
            case 7:
                return x.memory(any(random));
            case 8:
                return x.state(any(random));
            case 9:
            case 10:
            case 11:
                return x.step(any(random));
            default:
                return x.bus();
        }
    }
}

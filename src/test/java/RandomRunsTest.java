import java.util.Random;

/** Runs of chance calls, the same in every run of the test, held against PlainDesk. */
public final class RandomRunsTest {
    private static final int RUNS = 40000;
    /** The dearest step: a text of a full line, its call, and a call that asks for the fault. */
    private static final int CALLS_OF_A_STEP = 42;

    private final Random random;
    private final Check real = new Check();
    private final PlainDesk plain = new PlainDesk();
    private final String[] names;
    /** Modules that require earlier ones alone, so that most layers are made. */
    private final boolean orderly;

    private RandomRunsTest(long seed) {
        random = new Random(seed);
        String[] few = {"a", "b", "c", "d"};
        String[] many = {"a", "b", "c", "d", "e", "f", "gg", "hhhh"};
        names = seed % 3 == 0 ? many : few;
        orderly = seed % 2 == 0;
    }

    public static void main(String[] args) {
        int[] outcomes = new int[8];
        for (long seed = 0; seed < RUNS; seed++) {
            new RandomRunsTest(seed).run(outcomes);
        }
        String[] kinds = {"made", "IAE", "NSEE", "cycle", "split", "five", "read", "not read"};
        for (int i = 0; i < kinds.length; i++) {
            System.out.println(kinds[i] + ": " + outcomes[i]);
            Check.due("the runs never came to: " + kinds[i], outcomes[i] > 100 ? 1 : 0, 1);
        }
        Check.end();
    }

    private void run(int[] outcomes) {
        int forLayersAndQueries = 100 + random.nextInt(100);
        while (real.callsLeft() > forLayersAndQueries) {
            step(60, outcomes);
        }
        int forQueries = 60 + random.nextInt(30);
        while (real.callsLeft() > forQueries) {
            step(3, outcomes);
        }
        while (real.callsLeft() > CALLS_OF_A_STEP) {
            query(outcomes);
        }
        for (int what = -1; what < 4; what++) {
            due("count " + what, real.count(what), plain.count(what));
        }
    }

    private void step(int linesForEachLayer, int[] outcomes) {
        int chance = random.nextInt(linesForEachLayer);
        if (chance == 0 || chance == 1 && linesForEachLayer < 10) {
            layerStep(outcomes);
        } else if (random.nextInt(25) == 0) {
            int layer = random.nextInt(7) - 1;
            due("close " + layer, real.close(layer), plain.close(layer) ? 1 : 0);
        } else if (random.nextInt(20) == 0) {
            query(outcomes);
        } else {
            String text = lineText();
            lineStep(text);
            if (text.startsWith("package ") && random.nextBoolean()) {
                lineStep(text.replace("package ", "exports "));
            }
        }
    }

    private void lineStep(String text) {
        due("line " + text, real.line(text), plain.line(text));
    }

    private void due(String what, int got, int want) {
        Check.due(what, got, want);
    }

    private String pick(String... texts) {
        return texts[random.nextInt(texts.length)];
    }

    private String name() {
        return names[random.nextInt(names.length)];
    }

    private String packageName() {
        return random.nextInt(3) == 0 ? pick("q", "r", "s", "t", "u", "v") : "p";
    }

    private String moduleText() {
        if (!orderly) {
            return "module " + random.nextInt(2) + " " + name();
        }
        int finder = random.nextInt(5) == 0 ? 1 : 0;
        return "module " + finder + " " + (char) ('a' + plain.count(0));
    }

    private String requiredName() {
        int earlier = plain.count(0) - 1;
        return !orderly || earlier < 1 || random.nextInt(12) == 0 ? name() : "" + (char) ('a' + random.nextInt(earlier));
    }

    private String rootName() {
        return orderly ? "" + (char) ('a' + random.nextInt(Math.max(1, plain.count(0)))) : name();
    }

    private String lineText() {
        switch (random.nextInt(16)) {
            case 0:
            case 1:
            case 2:
            case 3:
                return moduleText();
            case 4:
            case 5:
                return "package " + packageName();
            case 6:
                return pick("exports ", "opens ") + packageName();
            case 7:
                return pick("exports ", "opens ") + packageName() + " to " + name();
            case 8:
                return "requires " + pick("static ", "transitive static ") + requiredName();
            case 9:
            case 10:
            case 11:
                return "requires " + pick("", "", "transitive ") + requiredName();
            case 12:
                return "uses " + pick("s", "t", "u", "v");
            case 13:
            case 14:
                return "provides " + pick("s", "t", "u", "v");
            default:
                return pick("", " ", "  requires  " + name() + " ", "requires static transitive a", "module 2 a",
                        "exports p to", "package pppp", "uses", "module  0 zz", "x");
        }
    }

    private void layerStep(int[] outcomes) {
        StringBuilder roots = new StringBuilder(rootName());
        for (int more = random.nextInt(4); more > 1; more--) {
            roots.append(' ').append(rootName());
        }
        if (random.nextInt(30) == 0) {
            roots.append(" a b c");
        }
        int finder = random.nextInt(30) == 0 ? 2 : random.nextInt(orderly ? 6 : 2) / (orderly ? 5 : 1);
        int parent = random.nextInt(7) - 1;
        if (plain.modules(parent) < 0 && random.nextInt(6) != 0) {
            parent = plain.count(1) - 1;
        }
        boolean binds = random.nextBoolean();
        int got = real.layer(roots.toString(), finder, parent, binds);
        due("layer " + roots, got, plain.layer(roots.toString(), finder, parent, binds));
        due("fault", real.fault(), plain.fault());
        if (got >= 0) {
            outcomes[0]++;
        } else if (got == Check.ISE) {
            outcomes[2 + plain.fault()]++;
        } else {
            outcomes[got == Check.IAE ? 1 : 2]++;
        }
    }

    /** A layer that is mostly one that was made. */
    private int someLayer() {
        return random.nextInt(20) == 0 ? random.nextInt(8) - 1 : random.nextInt(Math.max(1, plain.count(1)));
    }

    private void query(int[] outcomes) {
        int layer = someLayer();
        int k = random.nextInt(20) == 0 ? random.nextInt(15) - 1 : random.nextInt(Math.max(1, plain.modules(layer)));
        int target = random.nextBoolean() ? layer : someLayer();
        int descriptor = random.nextInt(20) == 0 ? random.nextInt(15) - 1
                : plain.module(target, random.nextInt(Math.max(1, plain.modules(target))));
        String text = random.nextInt(12) == 0 ? pick("", "p q", "P") : packageName();
        switch (random.nextInt(8)) {
            case 0:
                due("load", real.load(text, layer, k), plain.load(text, layer, k));
                break;
            case 1:
                due("peek", real.peek(text, layer, k, target, descriptor),
                        plain.peek(text, layer, k, target, descriptor));
                break;
            case 2:
                due("provider", real.provider(text, layer, k), plain.provider(text, layer, k));
                break;
            case 3:
                due("modules " + layer, real.modules(layer), plain.modules(layer));
                break;
            case 4:
                due("module", real.module(layer, k), plain.module(layer, k));
                break;
            default:
                boolean want = plain.reads(layer, k, target, descriptor);
                due("reads", real.reads(layer, k, target, descriptor), want ? 1 : 0);
                outcomes[want ? 6 : 7]++;
        }
    }
}

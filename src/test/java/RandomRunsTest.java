import java.util.Random;

/** Runs of chance calls, the same in every run of the test, held against PlainDesk. */
public final class RandomRunsTest {
    private static final int RUNS = 6000;
    private static final int STEPS = 100;
    private static final int DESCRIBING_STEPS = 60;

    private final Random random;
    private final Check real = new Check();
    private final PlainDesk plain = new PlainDesk();
    private final String[] names;

    private RandomRunsTest(long seed) {
        random = new Random(seed);
        String[] few = {"a", "b", "c", "d"};
        String[] many = {"a", "b", "c", "d", "e", "f", "gg", "hhhh"};
        names = seed % 3 == 0 ? few : many;
    }

    public static void main(String[] args) {
        int[] outcomes = new int[8];
        for (long seed = 0; seed < RUNS; seed++) {
            new RandomRunsTest(seed).run(outcomes);
        }
        String[] kinds = {"made", "IAE", "NSEE", "cycle", "split", "five", "read", "not read"};
        for (int i = 0; i < kinds.length; i++) {
            System.out.println(kinds[i] + ": " + outcomes[i]);
            Check.due("the runs never came to: " + kinds[i], outcomes[i] > 100 ? 1 : 0, 1);
        }
        Check.end();
    }

    private void run(int[] outcomes) {
        for (int step = 0; step < STEPS; step++) {
            if (random.nextInt(step < DESCRIBING_STEPS ? 40 : 2) == 0) {
                layerStep(outcomes);
            } else if (random.nextInt(25) == 0) {
                int layer = random.nextInt(7) - 1;
                due("close " + layer, real.desk.close(layer) ? 1 : 0, plain.close(layer) ? 1 : 0);
            } else {
                String text = lineText();
                due("line " + text, real.line(text), plain.line(text));
            }
            queries();
        }
        sweep(outcomes);
    }

    private void due(String what, int got, int want) {
        Check.due(what, got, want);
    }

    private String pick(String... texts) {
        return texts[random.nextInt(texts.length)];
    }

    private String name() {
        return names[random.nextInt(names.length)];
    }

    private String packageName() {
        return random.nextInt(3) == 0 ? pick("q", "r", "s", "t", "u", "v") : "p";
    }

    private String lineText() {
        switch (random.nextInt(14)) {
            case 0:
            case 12:
                return "module " + random.nextInt(2) + " " + name();
            case 1:
            case 2:
            case 3:
                return "package " + packageName();
            case 4:
            case 13:
                return pick("exports ", "opens ") + packageName();
            case 5:
                return pick("exports ", "opens ") + packageName() + " to " + name();
            case 6:
                return "requires " + pick("static ", "transitive static ") + name();
            case 7:
            case 8:
                return "requires " + pick("", "transitive ", "transitive ") + name();
            case 9:
                return "uses " + pick("s", "t", "u", "v");
            case 10:
                return "provides " + pick("s", "t", "u", "v");
            default:
                return pick("", " ", "  requires  " + name() + " ", "requires static transitive a", "module 2 a",
                        "exports p to", "package pppp", "uses", "module  0 zz", "x");
        }
    }

    private void layerStep(int[] outcomes) {
        StringBuilder roots = new StringBuilder(name());
        for (int more = random.nextInt(4); more > 1; more--) {
            roots.append(' ').append(name());
        }
        if (random.nextInt(30) == 0) {
            roots.append(" a b c");
        }
        int finder = random.nextInt(30) == 0 ? 2 : random.nextInt(2);
        int parent = random.nextInt(7) - 1;
        if (plain.modules(parent) < 0 && random.nextInt(4) != 0) {
            parent = -1;
        }
        boolean binds = random.nextBoolean();
        int got = real.layer(roots.toString(), finder, parent, binds);
        due("layer " + roots, got, plain.layer(roots.toString(), finder, parent, binds));
        due("fault", real.desk.fault(), plain.fault());
        if (got >= 0) {
            outcomes[0]++;
        } else if (got == Check.ISE) {
            outcomes[2 + plain.fault()]++;
        } else {
            outcomes[got == Check.IAE ? 1 : 2]++;
        }
    }

    private void queries() {
        int layer = random.nextInt(7) - 1;
        int k = random.nextInt(7) - 1;
        int target = random.nextInt(7) - 1;
        int descriptor = random.nextInt(14) - 1;
        due("reads", real.desk.reads(layer, k, target, descriptor) ? 1 : 0,
                plain.reads(layer, k, target, descriptor) ? 1 : 0);
        String text = random.nextInt(12) == 0 ? pick("", "p q", "P") : packageName();
        due("load", real.load(text, layer, k), plain.load(text, layer, k));
        due("peek", real.peek(text, layer, k, target, descriptor), plain.peek(text, layer, k, target, descriptor));
        due("provider", real.provider(text, layer, k), plain.provider(text, layer, k));
    }

    private void sweep(int[] outcomes) {
        for (int what = -1; what < 4; what++) {
            due("count " + what, real.desk.count(what), plain.count(what));
        }
        for (int layer = -1; layer < 6; layer++) {
            due("modules " + layer, real.desk.modules(layer), plain.modules(layer));
            for (int k = -1; k < 13; k++) {
                due("module", real.desk.module(layer, k), plain.module(layer, k));
                if (plain.module(layer, k) >= 0) {
                    sweepModule(layer, k, outcomes);
                }
            }
            for (int i = 0; i < 4; i++) {
                due("provider", real.provider("s", layer, i), plain.provider("s", layer, i));
            }
        }
    }

    private void sweepModule(int layer, int k, int[] outcomes) {
        for (int target = 0; target < 5; target++) {
            for (int descriptor = 0; descriptor < 12; descriptor++) {
                boolean want = plain.reads(layer, k, target, descriptor);
                due("reads", real.desk.reads(layer, k, target, descriptor) ? 1 : 0, want ? 1 : 0);
                outcomes[want ? 6 : 7]++;
                if (plain.modules(target) >= 0 && random.nextInt(4) == 0) {
                    String text = packageName();
                    due("peek", real.peek(text, layer, k, target, descriptor),
                            plain.peek(text, layer, k, target, descriptor));
                }
            }
        }
        for (String text : new String[] {"p", "q", "r", "s", "t", "u", "v"}) {
            due("load", real.load(text, layer, k), plain.load(text, layer, k));
        }
    }
}

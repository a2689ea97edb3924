import java.util.ArrayList;
import java.util.List;

/**
 * What stands after a call: many calls are asked of two desks, one with the call and one without
 * it. Each question goes to two new desks of its own, so that none comes to its last call.
 */
final class Stand {
    private static final String[] PACKAGES = {"p", "q", "r", "n"};
    private static final String[] SERVICES = {"s", "t", "u", "n"};
    private static final String[] OTHERS = {"b", "c", "d", "e", "n"};
    private static final String[] LINES = {"", "module 0 a", "module 1 a", "module 0 n", "module 1 n", "package p",
        "package q", "package n", "exports p", "exports q", "exports p to e", "exports p to n", "opens p", "opens q",
        "opens p to e", "opens p to n", "requires a", "requires b", "requires n", "requires static c",
        "requires transitive d", "uses s", "uses n", "provides s", "provides n"};

    interface Deed {
        void on(Check c);
    }

    private interface Question {
        void ask(Check c, List<Integer> answers);
    }

    private final List<Question> questions = new ArrayList<>();
    private final List<String> labels = new ArrayList<>();
    private final Deed before;
    private final int descriptors;
    private final int made;

    private Stand(Deed before, boolean withFault) {
        this.before = before;
        Check c = new Check();
        before.on(c);
        descriptors = c.count(0);
        made = c.count(1);
        if (withFault) {
            add("fault", (d, answers) -> answers.add(d.fault()));
        }
        askForState();
        askForLines();
        askForLayers();
        for (int x = 0; x < descriptors; x++) {
            String name = "" + (char) ('a' + x);
            for (int finder = 0; finder < 2; finder++) {
                askForGrants(name, finder);
                askForRequires(name, finder);
                askForServices(name, finder);
            }
        }
    }

    /** The call leaves all as it was, also what fault answers. */
    static void unchanged(String what, Deed before, Deed call) {
        new Stand(before, true).compare(what, call);
    }

    /** The same for a call of layer, which sets what fault answers. */
    static void unchangedButFault(String what, Deed before, Deed call) {
        new Stand(before, false).compare(what, call);
    }

    /** The call is seen later; this also shows that the questions would find what a refused call did. */
    static void changed(String what, Deed before, Deed call) {
        Stand stand = new Stand(before, true);
        boolean same = true;
        for (Question question : stand.questions) {
            same &= stand.answers(question, call).equals(stand.answers(question, null));
        }
        Check.due(what + ": nothing came of it", same ? 0 : 1, 1);
    }

    private void compare(String what, Deed call) {
        for (int i = 0; i < questions.size(); i++) {
            List<Integer> want = answers(questions.get(i), null);
            List<Integer> got = answers(questions.get(i), call);
            boolean same = got.equals(want);
            String told = same ? what : what + ": then " + labels.get(i) + " " + got + " instead of " + want;
            Check.due(told, same ? 1 : 0, 1);
        }
    }

    private List<Integer> answers(Question question, Deed call) {
        Check c = new Check();
        before.on(c);
        if (call != null) {
            call.on(c);
        }
        List<Integer> answers = new ArrayList<>();
        question.ask(c, answers);
        return answers;
    }

    private void add(String label, Question question) {
        labels.add(label);
        questions.add(question);
    }

    private void askForState() {
        add("counts", (c, answers) -> {
            for (int n = -1; n <= 5; n++) {
                answers.add(c.count(n));
                answers.add(c.modules(n));
            }
            answers.add(c.line());
        });
        for (int layer = 0; layer < made; layer++) {
            int l = layer;
            add("members of " + l, (c, answers) -> members(c, l, answers));
            add("close " + l, (c, answers) -> {
                answers.add(c.close(l));
                answers.add(c.count(2));
            });
            for (String service : SERVICES) {
                add("providers of " + l, (c, answers) -> {
                    for (int i = 0; i < 4; i++) {
                        answers.add(c.provider(service, l, i));
                    }
                });
            }
            for (int k = 0; k < descriptors; k++) {
                askForModule(l, k);
            }
        }
    }

    private void askForModule(int layer, int k) {
        add("reads and loads of " + layer + " " + k, (c, answers) -> {
            readsAndLoads(c, layer, k, answers);
        });
        for (int target = 0; target < made; target++) {
            int t = target;
            for (String name : PACKAGES) {
                add("peeks of " + layer + " " + k, (c, answers) -> {
                    for (int d = 0; d < descriptors; d++) {
                        answers.add(c.peek(name, layer, k, t, d));
                    }
                });
            }
        }
    }

    private void askForLines() {
        for (String text : LINES) {
            add("line \"" + text + "\"", (c, answers) -> {
                answers.add(c.line(text));
                answers.add(c.count(0));
                answers.add(c.line(text));
            });
        }
    }

    private void askForLayers() {
        for (int x = 0; x < descriptors; x++) {
            String name = "" + (char) ('a' + x);
            for (int n = 0; n < 4 * (made + 1); n++) {
                int finder = n % 2;
                boolean binds = n % 4 > 1;
                int parent = n / 4 - 1;
                add("layer " + name + " " + finder + " " + parent + " " + binds,
                        (c, answers) -> newLayer(c, name, finder, parent, binds, answers));
            }
        }
    }

    /** To whom packages are exported and opened is seen by a module of the name that requires it. */
    private void askForGrants(String name, int finder) {
        for (String reader : OTHERS) {
            add("what " + reader + " sees of " + name, (c, answers) -> {
                answers.add(c.line("module " + finder + " " + reader));
                answers.add(c.line("requires " + name));
                answers.add(c.layer(reader, finder, -1, false));
                for (String packageName : PACKAGES) {
                    answers.add(c.load(packageName, made, 0));
                    for (int d = 0; d < descriptors; d++) {
                        answers.add(c.peek(packageName, made, 0, made, d));
                    }
                }
            });
        }
    }

    /** What a static one is worth is seen when it is there as a root. */
    private void askForRequires(String name, int finder) {
        for (String other : OTHERS) {
            add(name + " with " + other, (c, answers) -> {
                answers.add(c.line("module " + finder + " " + other));
                answers.add(c.line("module " + finder + " w"));
                answers.add(c.line("requires " + name));
                newLayer(c, "w " + other, finder, -1, false, answers);
            });
        }
    }

    private void askForServices(String name, int finder) {
        for (String service : SERVICES) {
            add(name + " uses " + service, (c, answers) -> {
                answers.add(c.line("module " + finder + " w"));
                answers.add(c.line("provides " + service));
                newLayer(c, name, finder, -1, true, answers);
            });
            add(name + " provides " + service, (c, answers) -> {
                answers.add(c.line("module " + finder + " w"));
                answers.add(c.line("uses " + service));
                newLayer(c, "w", finder, -1, true, answers);
            });
        }
    }

    private void newLayer(Check c, String roots, int finder, int parent, boolean binds, List<Integer> answers) {
        int number = c.layer(roots, finder, parent, binds);
        answers.add(number);
        answers.add(c.fault());
        answers.add(c.count(1));
        answers.add(c.count(2));
        if (number >= 0) {
            members(c, number, answers);
            readsAndLoads(c, number, 0, answers);
            readsAndLoads(c, number, 1, answers);
        }
    }

    private static void members(Check c, int layer, List<Integer> answers) {
        answers.add(c.modules(layer));
        for (int k = 0; k < 12; k++) {
            answers.add(c.module(layer, k));
        }
    }

    private void readsAndLoads(Check c, int layer, int k, List<Integer> answers) {
        for (int target = 0; target <= made; target++) {
            for (int d = 0; d < Math.min(12, descriptors + 2); d++) {
                answers.add(c.reads(layer, k, target, d));
            }
        }
        for (String name : PACKAGES) {
            answers.add(c.load(name, layer, k));
        }
    }
}

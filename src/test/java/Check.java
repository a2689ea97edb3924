import java.util.NoSuchElementException;

/** Calls on a new LayerDesk, whose answers are held against those that are due. */
final class Check {
    /** What a call answers that throws; no answer of the face is as small. */
    static final int IAE = -101;
    static final int ISE = -102;
    static final int NSEE = -103;
    static final int OTHER = -104;

    /** What later calls answer is free, so that no test may hold the desk to it. */
    static final int CALLS_MOST = 512;

    private static int answers = 0;
    private static int wrong = 0;

    private final LayerDesk desk = new LayerDesk();
    private int calls = 0;

    private interface Call {
        int answer();
    }

    static void due(String what, int got, int want) {
        answers++;
        if (got != want) {
            wrong++;
            System.out.println(what + " answered " + got + ", due is " + want);
        }
    }

    static void end() {
        System.out.println(answers + " answers, " + wrong + " of them wrong");
        if (wrong != 0 || answers == 0) {
            System.exit(1);
        }
    }

    int callsLeft() {
        return CALLS_MOST - calls;
    }

    private int answerOf(Call call) {
        calls++;
        if (calls == CALLS_MOST + 1) {
            due("a test that calls a desk more often than that", calls, CALLS_MOST);
        }
        try {
            return call.answer();
        } catch (RuntimeException e) {
            return numberOf(e.getClass());
        }
    }

    /** Only the very classes that the document names, no class that extends one of them. */
    private static int numberOf(Class<?> thrown) {
        if (thrown == IllegalArgumentException.class) {
            return IAE;
        }
        if (thrown == IllegalStateException.class) {
            return ISE;
        }
        return thrown == NoSuchElementException.class ? NSEE : OTHER;
    }

    // Each call of the face: true is 1, false is 0.

    int write(int c) {
        return answerOf(() -> desk.write((char) c) ? 1 : 0);
    }

    int line() {
        return answerOf(() -> desk.line());
    }

    int layer(int finder, int parent, boolean binds) {
        return answerOf(() -> desk.layer(finder, parent, binds));
    }

    int fault() {
        return answerOf(() -> desk.fault());
    }

    int close(int layer) {
        return answerOf(() -> desk.close(layer) ? 1 : 0);
    }

    int count(int what) {
        return answerOf(() -> desk.count(what));
    }

    int modules(int layer) {
        return answerOf(() -> desk.modules(layer));
    }

    int module(int layer, int k) {
        return answerOf(() -> desk.module(layer, k));
    }

    int reads(int layer, int k, int target, int descriptor) {
        return answerOf(() -> desk.reads(layer, k, target, descriptor) ? 1 : 0);
    }

    int load(int layer, int k) {
        return answerOf(() -> desk.load(layer, k));
    }

    int peek(int layer, int k, int target, int descriptor) {
        return answerOf(() -> desk.peek(layer, k, target, descriptor) ? 1 : 0);
    }

    int provider(int layer, int i) {
        return answerOf(() -> desk.provider(layer, i));
    }

    // The calls that take the line, with the text that is written before.

    void write(String text) {
        for (int i = 0; i < text.length(); i++) {
            due("write " + text.charAt(i), write(text.charAt(i)), 1);
        }
    }

    int line(String text) {
        write(text);
        return line();
    }

    int layer(String roots, int finder, int parent, boolean binds) {
        write(roots);
        return layer(finder, parent, binds);
    }

    int load(String name, int layer, int k) {
        write(name);
        return load(layer, k);
    }

    int peek(String name, int layer, int k, int target, int descriptor) {
        write(name);
        return peek(layer, k, target, descriptor);
    }

    int provider(String name, int layer, int i) {
        write(name);
        return provider(layer, i);
    }

    // The calls with the answer that is due.

    void line(String text, int want) {
        due("line \"" + text + "\"", line(text), want);
    }

    /** Lines that must all be taken. */
    void lines(String... texts) {
        for (String text : texts) {
            line(text, text.trim().startsWith("module") ? 1 : 2);
        }
    }

    void layer(String roots, int finder, int parent, boolean binds, int want) {
        due("layer \"" + roots + "\" " + finder + " " + parent + " " + binds,
                layer(roots, finder, parent, binds), want);
    }

    /** A layer that must not be made, with what fault answers then. */
    void noLayer(String roots, int finder, int parent, int want, int wantFault) {
        layer(roots, finder, parent, false, want);
        faultIs(wantFault);
    }

    void faultIs(int want) {
        due("fault", fault(), want);
    }

    void close(int layer, boolean want) {
        due("close " + layer, close(layer), want ? 1 : 0);
    }

    void count(int what, int want) {
        due("count " + what, count(what), want);
    }

    void counts(int descriptors, int made, int open) {
        count(0, descriptors);
        count(1, made);
        count(2, open);
    }

    void modulesAre(int layer, int want) {
        due("modules " + layer, modules(layer), want);
    }

    void module(int layer, int k, int want) {
        due("module " + layer + " " + k, module(layer, k), want);
    }

    /** The descriptors of a layer's modules, in order, and that none is before or behind them. */
    void members(int layer, int... descriptors) {
        modulesAre(layer, descriptors.length);
        for (int k = 0; k < descriptors.length; k++) {
            module(layer, k, descriptors[k]);
        }
        module(layer, -1, -1);
        module(layer, descriptors.length, -1);
    }

    void reads(int layer, int k, int target, int descriptor, boolean want) {
        due("reads " + layer + " " + k + " " + target + " " + descriptor,
                reads(layer, k, target, descriptor), want ? 1 : 0);
    }

    void load(String name, int layer, int k, int want) {
        due("load \"" + name + "\" " + layer + " " + k, load(name, layer, k), want);
    }

    void peek(String name, int layer, int k, int target, int descriptor, int want) {
        due("peek \"" + name + "\" " + layer + " " + k + " " + target + " " + descriptor,
                peek(name, layer, k, target, descriptor), want);
    }

    void provider(String name, int layer, int i, int want) {
        due("provider \"" + name + "\" " + layer + " " + i, provider(name, layer, i), want);
    }

    /** An empty line answers 0, so this tells that the call before emptied it. */
    void lineIsEmpty() {
        due("line that was emptied", line(), 0);
    }
}

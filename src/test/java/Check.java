import java.util.NoSuchElementException;

/** Calls on a new LayerDesk, whose answers are held against those that are due. */
final class Check {
    /** What a call answers that throws; no answer of the face is as small. */
    static final int IAE = -101;
    static final int ISE = -102;
    static final int NSEE = -103;
    static final int OTHER = -104;

    private static int calls = 0;
    private static int wrong = 0;

    LayerDesk desk = new LayerDesk();

    private interface Call {
        int answer();
    }

    static void due(String what, int got, int want) {
        calls++;
        if (got != want) {
            wrong++;
            System.out.println(what + " answered " + got + ", due is " + want);
        }
    }

    static void end() {
        System.out.println(calls + " answers, " + wrong + " of them wrong");
        if (wrong != 0 || calls == 0) {
            System.exit(1);
        }
    }

    private static int answerOf(Call call) {
        try {
            return call.answer();
        } catch (IllegalArgumentException e) {
            return IAE;
        } catch (NoSuchElementException e) {
            return NSEE;
        } catch (IllegalStateException e) {
            return ISE;
        } catch (RuntimeException e) {
            return OTHER;
        }
    }

    void write(String text) {
        for (int i = 0; i < text.length(); i++) {
            due("write " + text.charAt(i), desk.write(text.charAt(i)) ? 1 : 0, 1);
        }
    }

    int line(String text) {
        write(text);
        return answerOf(() -> desk.line());
    }

    int layer(String roots, int finder, int parent, boolean binds) {
        write(roots);
        return answerOf(() -> desk.layer(finder, parent, binds));
    }

    int load(String name, int layer, int k) {
        write(name);
        return answerOf(() -> desk.load(layer, k));
    }

    int peek(String name, int layer, int k, int target, int descriptor) {
        write(name);
        return answerOf(() -> desk.peek(layer, k, target, descriptor) ? 1 : 0);
    }

    int provider(String name, int layer, int i) {
        write(name);
        return answerOf(() -> desk.provider(layer, i));
    }

    void line(String text, int want) {
        due("line \"" + text + "\"", line(text), want);
    }

    /** Lines that must all be taken. */
    void lines(String... texts) {
        for (String text : texts) {
            line(text, text.trim().startsWith("module") ? 1 : 2);
        }
    }

    void layer(String roots, int finder, int parent, boolean binds, int want) {
        due("layer \"" + roots + "\" " + finder + " " + parent + " " + binds,
                layer(roots, finder, parent, binds), want);
    }

    void fault(int want) {
        due("fault", desk.fault(), want);
    }

    void close(int layer, boolean want) {
        due("close " + layer, desk.close(layer) ? 1 : 0, want ? 1 : 0);
    }

    void counts(int descriptors, int made, int open) {
        due("count 0", desk.count(0), descriptors);
        due("count 1", desk.count(1), made);
        due("count 2", desk.count(2), open);
    }

    /** The descriptors of a layer's modules, in order. */
    void modules(int layer, int... descriptors) {
        due("modules " + layer, desk.modules(layer), descriptors.length);
        for (int k = 0; k < descriptors.length; k++) {
            due("module " + layer + " " + k, desk.module(layer, k), descriptors[k]);
        }
        due("module behind the last of " + layer, desk.module(layer, descriptors.length), -1);
    }

    void reads(int layer, int k, int target, int descriptor, boolean want) {
        due("reads " + layer + " " + k + " " + target + " " + descriptor,
                desk.reads(layer, k, target, descriptor) ? 1 : 0, want ? 1 : 0);
    }

    void load(String name, int layer, int k, int want) {
        due("load \"" + name + "\" " + layer + " " + k, load(name, layer, k), want);
    }

    void peek(String name, int layer, int k, int target, int descriptor, int want) {
        due("peek \"" + name + "\" " + layer + " " + k + " " + target + " " + descriptor,
                peek(name, layer, k, target, descriptor), want);
    }

    void provider(String name, int layer, int i, int want) {
        due("provider \"" + name + "\" " + layer + " " + i, provider(name, layer, i), want);
    }

    /** An empty line answers 0, so this tells that the call before emptied it. */
    void lineIsEmpty() {
        due("line that was emptied", answerOf(() -> desk.line()), 0);
    }
}

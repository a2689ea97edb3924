/** Promises 6 to 9: close, count, modules and module. */
public final class StateTest {
    private static final int[] OUTSIDE = {-1, 5, 6, 16, Integer.MAX_VALUE, Integer.MIN_VALUE};

    public static void main(String[] args) {
        closing();
        counting();
        modulesOfALayer();
        lineIsLeftAlone();
        Check.end();
    }

    private static void closing() {
        Check c = new Check();
        c.close(0, false);
        c.lines("module 0 a", "module 1 b");
        c.layer("a", 0, -1, false, 0);
        c.layer("b", 1, 0, false, 1);
        c.layer("a", 0, 0, false, 2);
        c.layer("a", 0, 1, false, 3);
        for (int layer : OUTSIDE) {
            c.close(layer, false);
        }
        c.close(4, false);
        c.close(0, false);
        c.close(1, false);
        c.counts(2, 4, 4);
        c.close(3, true);
        c.close(3, false);
        c.close(1, true);
        c.close(0, false);
        c.close(2, true);
        c.close(0, true);
        c.close(0, false);
        c.counts(2, 4, 0);
        c.layer("a", 0, -1, false, 4);
        c.counts(2, 5, 1);
        c.close(4, true);
        c.counts(2, 5, 0);
    }

    private static void counting() {
        Check c = new Check();
        for (int what : new int[] {-1, 3, 4, Integer.MAX_VALUE, Integer.MIN_VALUE}) {
            c.count(what, -1);
        }
        c.lines("module 0 a", "package p", "module 1 a");
        c.counts(2, 0, 0);
        c.layer("a", 0, -1, false, 0);
        c.layer("z", 0, -1, false, Check.NSEE);
        c.counts(2, 1, 1);
        c.layer("a", 1, 0, false, 1);
        c.counts(2, 2, 2);
        c.close(1, true);
        c.counts(2, 2, 1);
    }

    private static void modulesOfALayer() {
        Check c = new Check();
        c.lines("module 0 a", "requires c", "module 1 b", "module 0 c");
        c.layer("a", 0, -1, false, 0);
        c.layer("b", 1, 0, false, 1);
        c.members(0, 0, 2);
        c.members(1, 1);
        for (int outside : OUTSIDE) {
            c.modulesAre(outside, -1);
            c.module(outside, 0, -1);
            c.module(0, outside, -1);
        }
        c.modulesAre(2, -1);
        c.module(2, 0, -1);
        c.module(0, 2, -1);
        c.close(1, true);
        c.modulesAre(1, -1);
        c.module(1, 0, -1);
        c.members(0, 0, 2);
    }

    private static void lineIsLeftAlone() {
        Check c = new Check();
        c.lines("module 0 a");
        c.layer("a", 0, -1, false, 0);
        c.write("module 0 ");
        c.faultIs(0);
        c.counts(1, 1, 1);
        c.members(0, 0);
        c.reads(0, 0, 0, 0, false);
        c.close(0, true);
        c.line("b", 1);
    }
}

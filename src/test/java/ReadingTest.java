/** Promises 10 to 12: reads, load and peek. */
public final class ReadingTest {
    private static final int IAE = Check.IAE;
    private static final int NSEE = Check.NSEE;

    public static void main(String[] args) {
        readsDirectly();
        readsTransitively();
        readsThroughLayersAbove();
        readsThroughTwoLayersAbove();
        readsInAnyOrder();
        neverItself();
        readsWhatIsNotThere();
        loads();
        loadsFromAbove();
        wrongLoads();
        peeks();
        peeksAbove();
        wrongPeeks();
        Check.end();
    }

    private static void readsDirectly() {
        Check c = new Check();
        c.lines("module 0 a", "requires b", "requires static d", "module 0 b", "requires c", "module 0 c", "module 0 d");
        c.layer("a", 0, -1, false, 0);
        c.members(0, 0, 1, 2);
        c.reads(0, 0, 0, 1, true);
        c.reads(0, 0, 0, 2, false);
        c.reads(0, 0, 0, 3, false);
        c.reads(0, 1, 0, 2, true);
        c.reads(0, 1, 0, 0, false);
        c.reads(0, 2, 0, 1, false);
        c.layer("d a", 0, -1, false, 1);
        c.members(1, 3, 0, 1, 2);
        c.reads(1, 1, 1, 3, true);
        c.reads(1, 0, 1, 0, false);
        c.reads(1, 1, 0, 1, false);
    }

    private static void readsTransitively() {
        Check c = new Check();
        c.lines("module 0 a", "requires b", "module 0 b", "requires transitive c", "requires e", "module 0 c",
                "requires transitive d", "requires transitive static f", "requires static g", "module 0 d",
                "module 0 e", "requires transitive h", "module 0 f", "module 0 g", "module 0 h");
        c.layer("a", 0, -1, false, 0);
        boolean[] readBefore = {false, true, true, true, false, false, false, false};
        for (int d = 0; d < 8; d++) {
            c.reads(0, 0, 0, d, readBefore[d]);
        }
        c.layer("a f g", 0, -1, false, 1);
        boolean[] readByA = {false, true, true, true, false, true, false, false};
        boolean[] readByB = {false, false, true, true, true, true, false, true};
        for (int d = 0; d < 8; d++) {
            c.reads(1, 0, 1, d, readByA[d]);
            c.reads(1, 1, 1, d, readByB[d]);
        }
    }

    /** A name that one above requires is looked up from its own layer, not from the one below. */
    private static void readsThroughLayersAbove() {
        Check c = new Check();
        c.lines("module 0 b", "requires transitive c", "module 0 c", "module 1 a", "requires b", "requires static c",
                "module 1 c", "module 1 d", "requires b", "module 1 e", "requires transitive d", "module 0 f",
                "requires e", "requires c");
        c.layer("b", 0, -1, false, 0);
        c.layer("a c e", 1, 0, false, 1);
        c.members(1, 2, 3, 5, 4);
        c.reads(1, 0, 0, 0, true);
        c.reads(1, 0, 0, 1, true);
        c.reads(1, 0, 1, 3, true);
        c.reads(1, 3, 0, 0, true);
        c.reads(1, 3, 0, 1, true);
        c.reads(1, 3, 1, 3, false);
        c.reads(1, 2, 1, 4, true);
        c.reads(1, 2, 0, 0, false);
        c.layer("f", 0, 1, false, 2);
        c.members(2, 6, 1);
        c.reads(2, 0, 1, 5, true);
        c.reads(2, 0, 1, 4, true);
        c.reads(2, 0, 2, 1, true);
        c.reads(2, 0, 1, 3, false);
        c.reads(2, 0, 0, 1, false);
        c.reads(2, 0, 0, 0, false);
        c.reads(0, 0, 2, 1, false);
    }

    private static void readsThroughTwoLayersAbove() {
        Check c = new Check();
        c.lines("module 0 d", "module 0 c", "requires transitive d", "module 1 b", "requires transitive c",
                "module 0 a", "requires b", "module 0 e", "requires transitive b", "module 0 f", "requires e");
        c.layer("c", 0, -1, false, 0);
        c.layer("b", 1, 0, false, 1);
        c.layer("a f", 0, 1, false, 2);
        c.members(2, 3, 5, 4);
        for (int k = 0; k < 3; k++) {
            c.reads(2, k, 1, 2, true);
            c.reads(2, k, 0, 1, true);
            c.reads(2, k, 0, 0, true);
        }
        c.reads(1, 0, 0, 0, true);
        c.reads(2, 1, 2, 4, true);
    }

    /** Whatever place the modules between have in the layer. */
    private static void readsInAnyOrder() {
        String[] orders = {"a b c", "a c b", "b a c", "b c a", "c a b", "c b a"};
        for (String order : orders) {
            Check c = new Check();
            c.lines("module 0 a", "requires transitive static b", "module 0 b", "requires transitive static c",
                    "module 0 c", "requires transitive static d", "module 0 d");
            c.layer("d", 0, -1, false, 0);
            c.layer(order, 0, 0, false, 1);
            for (int k = 0; k < 3; k++) {
                int reader = c.module(1, k);
                for (int other = 0; other < 3; other++) {
                    c.reads(1, k, 1, other, other > reader);
                }
                c.reads(1, k, 0, 3, true);
            }
        }
    }

    private static void neverItself() {
        Check c = new Check();
        c.lines("module 0 a", "requires b", "package p", "exports p", "module 0 b",
                "requires transitive static a", "module 0 c", "requires b");
        c.layer("a c", 0, -1, false, 0);
        c.members(0, 0, 1, 2);
        c.reads(0, 0, 0, 0, false);
        c.reads(0, 0, 0, 1, true);
        c.reads(0, 1, 0, 0, true);
        c.reads(0, 1, 0, 1, false);
        c.reads(0, 2, 0, 0, true);
        c.reads(0, 2, 0, 1, true);
    }

    private static void readsWhatIsNotThere() {
        Check c = new Check();
        c.lines("module 0 a", "requires b", "module 0 b", "module 1 c", "requires b");
        c.reads(0, 0, 0, 0, false);
        c.layer("a", 0, -1, false, 0);
        c.layer("c", 1, 0, false, 1);
        c.reads(0, 0, 0, 1, true);
        c.reads(1, 0, 0, 1, true);
        int[] outside = {-1, 2, 5, 12, 16, 33, Integer.MAX_VALUE, Integer.MIN_VALUE};
        for (int n : outside) {
            c.reads(n, 0, 0, 1, false);
            c.reads(0, n, 0, 1, false);
            c.reads(0, 0, n, 1, false);
            c.reads(0, 0, 0, n, false);
        }
        c.reads(1, 1, 0, 1, false);
        c.close(1, true);
        c.reads(1, 0, 0, 1, false);
        c.close(0, true);
        c.reads(0, 0, 0, 1, false);
    }

    private static void loads() {
        Check c = new Check();
        c.lines("module 0 a", "package p", "requires b", "module 0 b", "package q", "exports q", "package r",
                "exports r to e", "exports r to a", "package s", "exports s to c", "package t", "opens t", "package p",
                "requires transitive c", "module 0 c", "package u", "exports u", "module 0 d", "package v", "exports v");
        c.layer("d a", 0, -1, false, 0);
        c.members(0, 3, 0, 1, 2);
        c.load("p", 0, 1, 0);
        c.lineIsEmpty();
        c.load("q", 0, 1, 1);
        c.load(" r  ", 0, 1, 1);
        c.load("u", 0, 1, 2);
        c.load("p", 0, 2, 1);
        c.load("s", 0, 2, 1);
        c.load("v", 0, 0, 3);
        c.load("s", 0, 1, NSEE);
        c.lineIsEmpty();
        c.load("t", 0, 1, NSEE);
        c.load("v", 0, 1, NSEE);
        c.load("zzzz", 0, 1, NSEE);
        c.load("q", 0, 3, NSEE);
    }

    private static void loadsFromAbove() {
        Check c = new Check();
        c.lines("module 0 a", "package p", "exports p", "requires static z", "module 1 b", "requires transitive a",
                "package q", "exports q", "module 0 c", "requires b", "package r");
        c.layer("a", 0, -1, false, 0);
        c.layer("b", 1, 0, false, 1);
        c.layer("c", 0, 1, false, 2);
        c.load("p", 2, 0, 0);
        c.load("q", 2, 0, 17);
        c.load("r", 2, 0, 34);
        c.load("p", 1, 0, 0);
        c.load("r", 1, 0, NSEE);
        c.load("q", 0, 0, NSEE);
    }

    private static void wrongLoads() {
        Check c = new Check();
        c.lines("module 0 a", "package p", "module 0 b");
        c.load("p", 0, 0, IAE);
        c.lineIsEmpty();
        c.layer("a", 0, -1, false, 0);
        for (String text : new String[] {"", "  ", "p p", "P", "ppppp", "p1", "p;"}) {
            c.load(text, 0, 0, IAE);
            c.lineIsEmpty();
        }
        for (int n : new int[] {-1, 1, 5, Integer.MAX_VALUE, Integer.MIN_VALUE}) {
            c.load("p", n, 0, IAE);
            c.load("p", 0, n, IAE);
            c.load("zz", 0, n, IAE);
        }
        c.close(0, true);
        c.load("p", 0, 0, IAE);
        c.lineIsEmpty();
    }

    private static void peeks() {
        Check c = new Check();
        c.lines("module 0 a", "package p", "requires b", "module 0 b", "package q", "opens q", "package r",
                "opens r to e", "opens r to a", "package s", "opens s to c", "package t", "exports t", "module 0 c",
                "requires b", "package u", "opens u", "module 0 d", "package v", "opens v to a", "opens v");
        c.layer("a c d", 0, -1, false, 0);
        c.members(0, 0, 1, 2, 3);
        c.peek("p", 0, 0, 0, 0, 1);
        c.lineIsEmpty();
        c.peek("t", 0, 1, 0, 1, 1);
        c.peek("q", 0, 0, 0, 1, 1);
        c.peek(" r ", 0, 0, 0, 1, 1);
        c.peek("s", 0, 0, 0, 1, 0);
        c.lineIsEmpty();
        c.peek("t", 0, 0, 0, 1, 0);
        c.peek("s", 0, 2, 0, 1, 1);
        c.peek("r", 0, 2, 0, 1, 0);
        c.peek("u", 0, 0, 0, 2, 0);
        c.peek("u", 0, 1, 0, 2, 0);
        c.peek("v", 0, 0, 0, 3, 0);
        c.peek("p", 0, 1, 0, 0, 0);
        c.peek("p", 0, 0, 0, 1, NSEE);
        c.lineIsEmpty();
        c.peek("q", 0, 0, 0, 0, NSEE);
        c.peek("zz", 0, 0, 0, 3, NSEE);
    }

    private static void peeksAbove() {
        Check c = new Check();
        c.lines("module 0 a", "package p", "opens p to b", "module 1 b", "requires a", "package q", "opens q");
        c.layer("a", 0, -1, false, 0);
        c.layer("b", 1, 0, false, 1);
        c.layer("a", 0, 1, false, 2);
        c.peek("p", 1, 0, 0, 0, 1);
        c.peek("p", 1, 0, 2, 0, 0);
        c.peek("q", 0, 0, 1, 1, 0);
        c.peek("p", 2, 0, 0, 0, 0);
        c.peek("p", 2, 0, 2, 0, 1);
        c.peek("q", 2, 0, 0, 0, NSEE);
        c.close(2, true);
        c.peek("p", 1, 0, 2, 0, IAE);
    }

    private static void wrongPeeks() {
        Check c = new Check();
        c.lines("module 0 a", "package p", "module 0 b");
        c.peek("p", 0, 0, 0, 0, IAE);
        c.layer("a", 0, -1, false, 0);
        for (String text : new String[] {"", "  ", "p p", "P", "ppppp", "p1", "-"}) {
            c.peek(text, 0, 0, 0, 0, IAE);
            c.lineIsEmpty();
        }
        for (int n : new int[] {-1, 1, 5, 32, Integer.MAX_VALUE, Integer.MIN_VALUE}) {
            c.peek("p", n, 0, 0, 0, IAE);
            c.peek("p", 0, n, 0, 0, IAE);
            c.peek("p", 0, 0, n, 0, IAE);
            c.peek("p", 0, 0, 0, n, IAE);
            c.peek("zz", 0, 0, 0, n, IAE);
            c.lineIsEmpty();
        }
        c.close(0, true);
        c.peek("p", 0, 0, 0, 0, IAE);
    }
}

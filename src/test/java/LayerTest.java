/** Promises 4 and 5: layer and fault. */
public final class LayerTest {
    private static final int IAE = Check.IAE;
    private static final int ISE = Check.ISE;
    private static final int NSEE = Check.NSEE;

    public static void main(String[] args) {
        wrongArguments();
        roots();
        order();
        missing();
        finderBeforeParent();
        cycles();
        staticAndAboveMakeNoCycle();
        splits();
        noSplits();
        splitWithTheSameDescriptorAbove();
        firstThatHolds();
        sixthLayerIsLookedAt();
        faultIsOfTheLatest();
        bindingOrder();
        bindingGoesBack();
        bindingForThoseAbove();
        bindingInPasses();
        boundModulesMakeFaults();
        twelveInARow();
        elevenAreBound();
        Check.end();
    }

    private static void wrongArguments() {
        Check c = new Check();
        c.lines("module 0 a", "module 0 b");
        for (String text : new String[] {"", "  ", "a b a b", "A", "a,b", "abcde", "a abcde", "a b 1"}) {
            c.layer(text, 0, -1, false, IAE);
            c.lineIsEmpty();
        }
        c.layer("a", 2, -1, false, IAE);
        c.lineIsEmpty();
        c.layer("a", -1, -1, false, IAE);
        c.layer("a", Integer.MAX_VALUE, -1, false, IAE);
        c.layer("a", Integer.MIN_VALUE, -1, true, IAE);
        for (int parent : new int[] {0, 1, 5, -2, Integer.MAX_VALUE, Integer.MIN_VALUE}) {
            c.layer("a", 0, parent, false, IAE);
        }
        c.counts(2, 0, 0);
        c.layer("a", 0, -1, false, 0);
        c.layer("b", 0, 1, false, IAE);
        c.close(0, true);
        c.layer("b", 0, 0, false, IAE);
        c.lineIsEmpty();
        c.counts(2, 1, 0);
    }

    private static void roots() {
        Check c = new Check();
        c.lines("module 0 a", "module 0 b", "module 0 c", "module 1 d");
        c.layer("  c   a b ", 0, -1, false, 0);
        c.lineIsEmpty();
        c.members(0, 2, 0, 1);
        c.layer("b b b", 0, -1, false, 1);
        c.members(1, 1);
        c.layer("d", 0, -1, false, NSEE);
        c.lineIsEmpty();
        c.layer("d a", 1, 0, false, 2);
        c.members(2, 3);
        c.layer("a", 1, 0, false, 3);
        c.members(3);
        c.counts(4, 4, 4);
    }

    private static void order() {
        Check c = new Check();
        c.lines("module 0 a", "requires b", "requires static e", "requires c", "module 0 b", "requires d", "module 0 c",
                "module 0 d", "requires c", "module 0 e", "module 0 f", "requires transitive a");
        c.layer("a e", 0, -1, false, 0);
        c.members(0, 0, 1, 3, 2, 4);
        c.layer("d f", 0, -1, false, 1);
        c.members(1, 3, 2, 5, 0, 1);
    }

    private static void missing() {
        Check c = new Check();
        c.lines("module 0 a", "requires b", "module 0 b", "requires transitive c", "module 1 c",
                "module 0 d", "requires static c", "requires transitive static e", "module 0 g", "requires c");
        c.layer("a", 0, -1, false, NSEE);
        c.faultIs(0);
        c.layer("d a", 0, -1, true, NSEE);
        c.layer("z", 0, -1, false, NSEE);
        c.counts(5, 0, 0);
        c.layer("d", 0, -1, false, 0);
        c.members(0, 3);
        c.layer("a", 0, 0, false, NSEE);
        c.layer("c", 1, 0, false, 1);
        c.layer("a", 0, 1, false, 2);
        c.members(2, 0, 1);
        c.layer("g", 0, 2, false, 3);
        c.members(3, 4);
    }

    private static void finderBeforeParent() {
        Check c = new Check();
        c.lines("module 0 a", "requires b", "module 0 b", "module 1 b", "module 1 e", "requires b");
        c.layer("a", 0, -1, false, 0);
        c.layer("a", 0, 0, false, 1);
        c.members(1, 0, 1);
        c.reads(1, 0, 1, 1, true);
        c.reads(1, 0, 0, 1, false);
        c.layer("e", 1, 1, false, 2);
        c.members(2, 3, 2);
        c.reads(2, 0, 2, 2, true);
        c.reads(2, 0, 1, 1, false);
    }

    private static void cycles() {
        Check c = new Check();
        c.lines("module 0 a", "requires b", "module 0 b", "requires c", "module 0 c", "requires transitive a",
                "module 0 d", "requires a", "module 0 e");
        c.layer("a", 0, -1, false, ISE);
        c.faultIs(1);
        c.lineIsEmpty();
        c.layer("d", 0, -1, false, ISE);
        c.faultIs(1);
        c.layer("e", 0, -1, false, 0);
        c.faultIs(0);
        c.layer("e c", 0, 0, true, ISE);
        c.faultIs(1);
        c.counts(5, 1, 1);
    }

    private static void staticAndAboveMakeNoCycle() {
        Check c = new Check();
        c.lines("module 0 a", "requires b", "module 0 b", "requires static a", "module 0 c",
                "requires transitive static a", "module 1 b", "requires a");
        c.layer("a c", 0, -1, false, 0);
        c.faultIs(0);
        c.layer("b", 1, 0, false, 1);
        c.members(1, 3);
        c.faultIs(0);
    }

    private static void splits() {
        Check own = new Check();
        own.lines("module 0 a", "package p", "requires b", "module 0 b", "package q", "package p", "exports p");
        own.layer("a", 0, -1, false, ISE);
        own.faultIs(2);
        own.counts(2, 0, 0);
        Check two = new Check();
        two.lines("module 0 a", "requires b", "module 0 b", "package p", "exports p to a", "requires transitive c",
                "module 0 c", "package p", "exports p to a", "module 0 d", "requires a");
        two.layer("a", 0, -1, false, ISE);
        two.faultIs(2);
        two.layer("d", 0, -1, false, ISE);
        two.faultIs(2);
        two.layer("c", 0, -1, false, 0);
        two.layer("b", 0, 0, false, 1);
        two.faultIs(0);
        Check above = new Check();
        above.lines("module 0 a", "package p", "exports p", "module 1 b", "package p", "requires a");
        above.layer("a", 0, -1, false, 0);
        above.layer("b", 1, 0, false, ISE);
        above.faultIs(2);
        above.counts(2, 1, 1);
    }

    private static void noSplits() {
        Check c = new Check();
        c.lines("module 0 a", "package p", "requires b", "requires c", "module 0 b", "package p", "exports p to c",
                "opens p", "module 0 c", "package p", "opens p to a", "module 0 d", "package p", "exports p");
        c.layer("a d", 0, -1, false, 0);
        c.members(0, 0, 1, 2, 3);
        c.faultIs(0);
        Check reader = new Check();
        reader.lines("module 0 a", "package p", "exports p", "module 0 b", "package p", "exports p to a",
                "requires static a");
        reader.layer("b", 0, -1, false, 0);
        reader.layer("b a", 0, -1, false, ISE);
        reader.faultIs(2);
    }

    /** A module may read another one of its own descriptor that is in a layer above. */
    private static void splitWithTheSameDescriptorAbove() {
        Check c = new Check();
        c.lines("module 0 a", "requires static b", "package p", "exports p", "module 0 c", "requires static b",
                "module 1 b", "requires transitive a", "requires transitive c");
        c.layer("a c", 0, -1, false, 0);
        c.layer("b", 1, 0, false, 1);
        c.layer("c", 0, 1, false, 2);
        c.reads(2, 0, 0, 1, true);
        c.reads(2, 0, 2, 1, false);
        c.layer("a", 0, 1, false, ISE);
        c.faultIs(2);
    }

    private static void firstThatHolds() {
        Check c = new Check();
        c.lines("module 0 a", "requires b", "package p", "module 0 b", "requires a", "package p", "exports p",
                "module 0 c", "requires a", "requires z", "module 0 d");
        c.layer("a", 0, -1, false, ISE);
        c.faultIs(1);
        c.layer("c", 0, -1, false, NSEE);
        c.faultIs(0);
        c.layer("c", 3, -1, false, IAE);
        c.layer("c", 0, 7, false, IAE);
        c.layer("C", 0, -1, false, IAE);
        for (int n = 0; n < 5; n++) {
            c.layer("d", 0, n - 1, false, n);
        }
        c.layer("c", 0, -1, false, NSEE);
        c.faultIs(0);
        c.layer("c", 0, 5, false, IAE);
        c.faultIs(0);
        c.layer("a", 0, 4, false, ISE);
        c.faultIs(1);
    }

    private static void sixthLayerIsLookedAt() {
        Check c = new Check();
        c.lines("module 0 a", "package p", "exports p", "module 1 b", "package p", "requires a", "module 1 c",
                "requires a", "module 1 d");
        c.layer("a", 0, -1, false, 0);
        for (int n = 1; n < 5; n++) {
            c.layer("d", 1, n - 1, false, n);
        }
        c.layer("b", 1, 4, false, ISE);
        c.faultIs(2);
        c.layer("c", 1, 4, true, ISE);
        c.faultIs(3);
        c.lineIsEmpty();
        c.close(4, true);
        c.layer("c", 1, 3, false, ISE);
        c.faultIs(3);
        c.counts(4, 5, 4);
        c.line("package q", ISE);
        c.lines("module 1 e");
        c.layer("e", 1, 3, false, ISE);
        c.faultIs(3);
        c.lines("package q");
    }

    private static void faultIsOfTheLatest() {
        Check c = new Check();
        c.faultIs(0);
        c.lines("module 0 a", "requires b", "module 0 b", "requires a", "module 0 c");
        c.layer("a", 0, -1, false, ISE);
        c.faultIs(1);
        c.faultIs(1);
        c.lines("package p");
        c.line("package p", IAE);
        c.faultIs(1);
        c.layer("", 0, -1, false, IAE);
        c.faultIs(0);
        c.layer("a", 0, -1, false, ISE);
        c.layer("z", 0, -1, false, NSEE);
        c.faultIs(0);
        c.layer("a", 0, -1, false, ISE);
        c.layer("c", 0, -1, false, 0);
        c.faultIs(0);
    }

    private static void bindingOrder() {
        Check c = new Check();
        c.lines("module 0 a", "uses s", "uses t", "module 0 b", "provides t", "provides s", "requires e", "module 0 c",
                "provides t", "module 0 d", "provides s", "uses u", "module 0 e", "module 0 f", "provides u",
                "module 0 g", "provides v", "module 1 h", "provides s");
        c.layer("a", 0, -1, false, 0);
        c.members(0, 0);
        c.layer("a", 0, -1, true, 1);
        c.members(1, 0, 1, 4, 3, 2, 5);
        c.layer("g d", 0, -1, true, 2);
        c.members(2, 6, 3, 5);
        Check first = new Check();
        first.lines("module 0 a", "provides s", "module 0 b", "uses s");
        first.layer("b", 0, -1, true, 0);
        first.members(0, 1, 0);
    }

    private static void bindingGoesBack() {
        Check c = new Check();
        c.lines("module 0 a", "uses s", "module 0 b", "provides s", "requires e", "requires z", "module 0 c",
                "provides s", "requires b", "module 0 d", "provides s", "requires static z", "module 0 e",
                "uses t", "module 0 f", "provides t");
        c.layer("a", 0, -1, true, 0);
        c.members(0, 0, 3);
        c.faultIs(0);
        c.layer("a e", 0, -1, true, 1);
        c.members(1, 0, 4, 3, 5);
    }

    private static void bindingForThoseAbove() {
        Check c = new Check();
        c.lines("module 0 a", "uses s", "module 0 b", "uses t", "module 1 c", "provides t", "module 1 d", "provides s",
                "module 1 e", "uses u", "module 1 f", "provides u", "module 0 g");
        c.layer("a", 0, -1, false, 0);
        c.layer("b", 0, 0, false, 1);
        c.layer("e", 1, 1, true, 2);
        c.members(2, 4, 5, 2, 3);
        c.layer("g", 1, 1, true, Check.NSEE);
        c.layer("b", 1, 1, true, 3);
        c.members(3, 2, 3);
        c.layer("b", 1, 1, false, 4);
        c.members(4);
    }

    /** What comes for a layer above is asked for its own uses in the next pass. */
    private static void bindingInPasses() {
        Check c = new Check();
        c.lines("module 0 a", "uses s", "module 1 b", "provides s", "uses t", "module 1 c", "provides t", "uses u",
                "module 1 d", "provides s", "module 1 e", "provides u");
        c.layer("a", 0, -1, true, 0);
        c.members(0, 0);
        c.layer("a", 1, 0, true, 1);
        c.members(1, 1, 3, 2, 4);
    }

    private static void boundModulesMakeFaults() {
        Check c = new Check();
        c.lines("module 0 a", "uses s", "module 0 b", "provides s", "requires c", "module 0 c", "requires b",
                "module 1 a", "uses s", "package p", "exports p", "module 1 b", "provides s", "requires a",
                "package p");
        c.layer("a", 0, -1, false, 0);
        c.layer("a", 0, -1, true, ISE);
        c.faultIs(1);
        c.layer("a", 1, -1, true, ISE);
        c.faultIs(2);
        c.layer("a", 1, -1, false, 1);
        c.faultIs(0);
    }

    private static void twelveInARow() {
        Check c = new Check();
        for (char n = 'a'; n < 'l'; n++) {
            c.lines("module 0 " + n, "requires transitive " + (char) (n + 1));
        }
        c.lines("module 0 l");
        c.layer("a", 0, -1, false, 0);
        c.members(0, 0, 1, 2, 3, 4, 5, 6, 7, 8, 9, 10, 11);
        c.reads(0, 0, 0, 11, true);
        c.reads(0, 11, 0, 0, false);
    }

    private static void elevenAreBound() {
        Check c = new Check();
        for (char n = 'a'; n < 'l'; n++) {
            c.lines("module 0 " + n, "provides s");
        }
        c.lines("module 0 l", "uses s");
        c.layer("l", 0, -1, true, 0);
        c.members(0, 11, 0, 1, 2, 3, 4, 5, 6, 7, 8, 9, 10);
    }
}

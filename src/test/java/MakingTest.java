/**
 * The boundary cases that the section "Terms" names about layers: making them, binding, reading,
 * cycles and splits; a method for each, with the words of the document above it.
 */
public final class MakingTest {
    private static final int IAE = Check.IAE;
    private static final int ISE = Check.ISE;
    private static final int NSEE = Check.NSEE;

    public static void main(String[] args) {
        numbersOfLayers();
        atMostFive();
        parents();
        modulesAreOfItsFinder();
        lookingUp();
        lookingUpThroughFourParents();
        rootsInOrder();
        addedOnce();
        notTheStaticOnes();
        finderBeforeParent();
        missing();
        missingIsLookedUpFromTheParent();
        bindingOnlyIfAsked();
        bindingInOrder();
        bindingThoseThatComeMeanwhile();
        bindingTheLayersAbove();
        bindingIsOfTheFinder();
        bindingSkipsModules();
        bindingTakesBackWhatIsMissing();
        bindingBeginsAnew();
        bindingTriesAgainInALaterPass();
        bindingAllTwelve();
        staticNotFound();
        staticFoundAbove();
        neverItself();
        requireTransitively();
        aboveReadsAsItDid();
        cycleOfTwo();
        cycleOfTwelve();
        cycleBesideTheRoot();
        noCycleByStatic();
        noCycleThroughAbove();
        splitOwnAndRead();
        splitOfTwoRead();
        splitNeedsExportsToIt();
        splitNeedsReading();
        splitWithOneAbove();
        splitInAnyModule();
        exportedToItsName();
        Check.end();
    }

    /** A layer that must not be made; all but the fault stands as it was, and the line is empty. */
    private static void refused(Stand.Deed before, String roots, int finder, int parent, boolean binds, int want,
            int wantFault) {
        Check c = new Check();
        before.on(c);
        c.layer(roots, finder, parent, binds, want);
        c.faultIs(wantFault);
        c.lineIsEmpty();
        Stand.unchangedButFault("layer \"" + roots + "\"", before, d -> d.layer(roots, finder, parent, binds));
    }

    /** "LAYERS are numbered 0, 1, .. as they are made": what was refused takes no number. */
    private static void numbersOfLayers() {
        Check c = new Check();
        c.lines("module 0 a", "requires b", "module 0 b", "requires a", "module 1 c");
        c.layer("c", 1, -1, false, 0);
        c.layer("z", 1, -1, false, NSEE);
        c.layer("c", 1, 0, false, 1);
        c.layer("a", 0, -1, false, ISE);
        c.layer("C", 1, -1, false, IAE);
        c.close(1, true);
        c.layer("c", 1, -1, false, 2);
        c.members(2, 2);
    }

    private static void fiveLayers(Check c) {
        c.lines("module 0 a", "package p", "module 1 b");
        for (int n = 0; n < 5; n++) {
            c.layer("a", 0, n - 1, false, n);
        }
    }

    /** "at most 5 (closed ones counted)". */
    private static void atMostFive() {
        Check c = new Check();
        fiveLayers(c);
        c.faultIs(0);
        c.counts(2, 5, 5);
        c.members(4, 0);
        refused(MakingTest::fiveLayers, "a", 0, -1, false, ISE, 3);
        refused(MakingTest::fiveLayers, "a", 0, 4, true, ISE, 3);
        refused(MakingTest::fiveLayers, "b", 1, 4, false, ISE, 3);
        Stand.Deed allClosed = d -> {
            fiveLayers(d);
            for (int n = 4; n >= 0; n--) {
                d.close(n, true);
            }
        };
        refused(allClosed, "a", 0, -1, false, ISE, 3);
        Stand.Deed fourOfThemClosed = d -> {
            d.lines("module 0 a");
            for (int n = 0; n < 4; n++) {
                d.layer("a", 0, -1, false, n);
                d.close(n, true);
            }
        };
        Stand.changed("the fifth", fourOfThemClosed, d -> d.layer("a", 0, -1, false, 4));
    }

    /** "a PARENT (a layer that is open) or none". */
    private static void parents() {
        Stand.Deed before = c -> {
            c.lines("module 0 a", "module 1 b", "requires a");
            c.layer("a", 0, -1, false, 0);
            c.layer("a", 0, -1, false, 1);
            c.close(0, true);
        };
        refused(before, "b", 1, 0, false, IAE, 0);
        refused(before, "b", 1, 2, false, IAE, 0);
        refused(before, "b", 1, -2, false, IAE, 0);
        refused(before, "b", 1, -1, false, NSEE, 0);
        Stand.changed("an open parent", before, c -> c.layer("b", 1, 1, false, 2));
    }

    /** "MODULES: descriptors of its finder, in an order". */
    private static void modulesAreOfItsFinder() {
        Check c = new Check();
        c.lines("module 0 a", "module 1 a", "module 0 b", "module 1 b", "requires a");
        c.layer("b a", 0, -1, false, 0);
        c.members(0, 2, 0);
        c.layer("b", 1, 0, false, 1);
        c.members(1, 3, 1);
    }

    /** "its own modules, then those of its parent, and so on: the first module of the name". */
    private static void lookingUp() {
        Check c = new Check();
        c.lines("module 0 a", "module 1 a", "module 0 b", "module 1 c", "requires a", "module 1 d", "requires b");
        c.layer("a b", 0, -1, false, 0);
        c.layer("c d", 1, 0, false, 1);
        c.members(1, 3, 1, 4);
        c.reads(1, 0, 1, 1, true);
        c.reads(1, 0, 0, 0, false);
        c.reads(1, 2, 0, 2, true);
        Check nearest = new Check();
        nearest.lines("module 0 a", "module 1 b", "requires a");
        nearest.layer("a", 0, -1, false, 0);
        nearest.layer("a", 0, 0, false, 1);
        nearest.layer("b", 1, 1, false, 2);
        nearest.reads(2, 0, 1, 0, true);
        nearest.reads(2, 0, 0, 0, false);
    }

    private static void lookingUpThroughFourParents() {
        Check c = new Check();
        c.lines("module 0 a", "module 0 b", "module 1 c", "requires a");
        c.layer("a", 0, -1, false, 0);
        for (int n = 1; n < 4; n++) {
            c.layer("b", 0, n - 1, false, n);
        }
        c.layer("c", 1, 3, false, 4);
        c.reads(4, 0, 0, 0, true);
        Check beside = new Check();
        beside.lines("module 0 a", "module 0 b", "module 1 c", "requires a");
        beside.layer("b", 0, -1, false, 0);
        beside.layer("a", 0, 0, false, 1);
        beside.layer("c", 1, 0, false, NSEE);
        beside.layer("c", 1, 1, false, 2);
    }

    /** "each root in order is ADDED"; "it becomes the last one, and then the names that it requires". */
    private static void rootsInOrder() {
        Check c = new Check();
        c.lines("module 0 a", "requires c", "requires b", "module 0 b", "module 0 c", "requires e", "module 0 d",
                "module 0 e");
        c.layer("d a b", 0, -1, false, 0);
        c.members(0, 3, 0, 2, 4, 1);
        c.layer("b a d", 0, -1, false, 1);
        c.members(1, 1, 0, 2, 4, 3);
    }

    /** "when one is a module already, nothing". */
    private static void addedOnce() {
        Check c = new Check();
        c.lines("module 0 a", "requires b", "requires c", "module 0 b", "requires c", "module 0 c");
        c.layer("c b a", 0, -1, false, 0);
        c.members(0, 2, 1, 0);
        c.layer("a a a", 0, -1, false, 1);
        c.members(1, 0, 1, 2);
        c.layer("a", 0, 0, false, 2);
        c.members(2, 0, 1, 2);
    }

    /** "but the static ones": they are not added, and are never missing. */
    private static void notTheStaticOnes() {
        Check c = new Check();
        c.lines("module 0 a", "requires static b", "requires transitive static c", "requires static z", "module 0 b",
                "requires z", "module 0 c");
        c.layer("a", 0, -1, true, 0);
        c.members(0, 0);
        c.layer("a c", 0, -1, false, 1);
        c.members(1, 0, 2);
        c.layer("a b", 0, -1, false, NSEE);
    }

    /** "when a descriptor of the finder has it": then the parent is not asked. */
    private static void finderBeforeParent() {
        Check c = new Check();
        c.lines("module 0 a", "module 1 a", "requires z", "module 1 b", "requires a", "module 1 c");
        c.layer("a", 0, -1, false, 0);
        c.layer("a", 1, 0, false, NSEE);
        c.layer("b", 1, 0, false, NSEE);
        c.layer("c", 1, 0, false, 1);
    }

    /** "otherwise it is MISSING": a root, or what a module on the way requires. */
    private static void missing() {
        Stand.Deed before = c -> c.lines("module 0 a", "requires b", "module 0 b", "requires transitive c",
                "module 1 c", "module 0 d");
        refused(before, "e", 0, -1, false, NSEE, 0);
        refused(before, "c", 0, -1, false, NSEE, 0);
        refused(before, "b", 0, -1, false, NSEE, 0);
        refused(before, "a", 0, -1, true, NSEE, 0);
        refused(before, "d d e", 0, -1, false, NSEE, 0);
        refused(before, "d", 1, -1, false, NSEE, 0);
        Stand.changed("nothing missing", before, c -> c.layer("d", 0, -1, false, 0));
    }

    /** "it must be found by looking it up from the parent"; a layer may have no module of its own. */
    private static void missingIsLookedUpFromTheParent() {
        Check c = new Check();
        c.lines("module 0 a", "module 1 b", "requires a", "module 1 c");
        c.layer("a", 0, -1, false, 0);
        c.layer("c", 1, -1, false, 1);
        c.layer("b", 1, 1, false, NSEE);
        c.layer("b", 1, 0, false, 2);
        c.members(2, 1);
        c.layer("a", 1, 2, false, 3);
        c.members(3);
        c.layer("b", 1, 3, false, 4);
        c.members(4, 1);
        c.reads(4, 0, 0, 0, true);
    }

    /** "BINDING, if that is asked for". */
    private static void bindingOnlyIfAsked() {
        Check c = new Check();
        c.lines("module 0 a", "uses s", "module 0 b", "provides s");
        c.layer("a", 0, -1, false, 0);
        c.members(0, 0);
        c.layer("a", 0, -1, true, 1);
        c.members(1, 0, 1);
        Check none = new Check();
        none.lines("module 0 a", "provides s", "module 0 b", "provides s", "uses t");
        none.layer("b", 0, -1, true, 0);
        none.members(0, 1);
    }

    /** "each service that it uses, in order: each descriptor of the finder, in order". */
    private static void bindingInOrder() {
        Check c = new Check();
        c.lines("module 0 a", "provides t", "module 0 b", "provides s", "module 0 c", "provides t", "module 0 d",
                "uses s", "uses t", "module 0 e", "provides s");
        c.layer("d", 0, -1, true, 0);
        c.members(0, 3, 1, 4, 0, 2);
        Check third = new Check();
        third.lines("module 0 a", "uses x", "uses y", "uses z", "module 0 b", "provides x", "provides y",
                "provides z", "module 0 c", "provides q", "provides r", "provides z");
        third.layer("a", 0, -1, true, 0);
        third.members(0, 0, 1, 2);
    }

    /** "(also those that come meanwhile)": before the layers above are asked. */
    private static void bindingThoseThatComeMeanwhile() {
        Check c = new Check();
        c.lines("module 0 a", "uses s", "module 1 b", "uses t", "module 1 c", "provides t", "requires f", "module 1 d",
                "provides u", "module 1 e", "provides s", "module 1 f", "uses u");
        c.layer("a", 0, -1, false, 0);
        c.layer("b", 1, 0, true, 1);
        c.members(1, 1, 2, 5, 3, 4);
    }

    /** "and then each module of the layers above (the parent's first, each in order)". */
    private static void bindingTheLayersAbove() {
        Check c = new Check();
        c.lines("module 0 a", "uses s", "module 0 b", "uses t", "module 0 c", "uses u", "module 1 d", "provides s",
                "module 1 e", "provides t", "module 1 f", "provides u", "module 1 g");
        c.layer("a", 0, -1, false, 0);
        c.layer("c b", 0, 0, false, 1);
        c.layer("g", 1, 1, true, 2);
        c.members(2, 6, 5, 4, 3);
        c.layer("g", 1, 0, true, 3);
        c.members(3, 6, 3);
        c.layer("g", 1, -1, true, 4);
        c.members(4, 6);
    }

    /** "each descriptor of the finder": not of the other one, though a parent's module uses it. */
    private static void bindingIsOfTheFinder() {
        Check c = new Check();
        c.lines("module 0 a", "uses s", "module 1 b", "provides s", "module 0 c", "provides s");
        c.layer("a", 0, -1, true, 0);
        c.members(0, 0, 2);
        c.layer("a", 1, 0, true, 1);
        c.members(1, 1);
    }

    /** "and is no module": of this layer; one that is a module above may come again. */
    private static void bindingSkipsModules() {
        Check c = new Check();
        c.lines("module 0 a", "uses s", "provides s", "module 0 b", "provides s");
        c.layer("b a", 0, -1, true, 0);
        c.members(0, 1, 0);
        c.layer("a", 0, 0, true, 1);
        c.members(1, 0, 1);
    }

    /** "when something is missing on the way, all modules that came with it go again". */
    private static void bindingTakesBackWhatIsMissing() {
        Check c = new Check();
        c.lines("module 0 a", "uses s", "module 0 b", "provides s", "requires c", "requires z", "module 0 c",
                "requires d", "module 0 d", "module 0 e", "provides s", "requires d");
        c.layer("a", 0, -1, true, 0);
        c.members(0, 0, 4, 3);
        c.faultIs(0);
        c.layer("a d", 0, -1, true, 1);
        c.members(1, 0, 3, 4);
        Check only = new Check();
        only.lines("module 0 a", "uses s", "module 0 b", "provides s", "requires z");
        only.layer("a", 0, -1, true, 0);
        only.members(0, 0);
        only.line("package p", 2);
    }

    /** "Each pass begins anew at the first one": what came for a layer above is asked in the next pass. */
    private static void bindingBeginsAnew() {
        Check c = new Check();
        c.lines("module 0 a", "uses s", "module 0 b", "uses t", "module 1 c", "provides s", "uses u", "module 1 d",
                "provides u", "uses v", "module 1 e", "provides v", "module 1 f", "provides t");
        c.layer("a b", 0, -1, false, 0);
        c.layer("a", 1, 0, true, 1);
        c.members(1, 2, 5, 3, 4);
    }

    /** What is missing stays so in each pass, and the binding ends. */
    private static void bindingTriesAgainInALaterPass() {
        Check c = new Check();
        c.lines("module 0 a", "uses s", "uses t", "module 0 b", "provides s", "requires d", "module 0 c", "provides t",
                "requires z", "module 1 d", "module 0 e", "provides t");
        c.layer("a", 0, -1, true, 0);
        c.members(0, 0, 4);
        c.layer("d", 1, -1, false, 1);
        c.layer("a", 0, 1, true, 2);
        c.members(2, 0, 1, 4);
    }

    /** Each comes by the one before it, so that the last comes in the last place. */
    private static void bindingAllTwelve() {
        Check c = new Check();
        for (char name = 'l'; name >= 'a'; name--) {
            c.lines("module 0 " + name, "uses " + name);
            if (name > 'a') {
                c.lines("provides " + (char) (name - 1));
            }
        }
        c.layer("a", 0, -1, true, 0);
        c.members(0, 11, 10, 9, 8, 7, 6, 5, 4, 3, 2, 1, 0);
    }

    /** "(a static one that is not found counts for nothing)". */
    private static void staticNotFound() {
        Check c = new Check();
        c.lines("module 0 a", "requires static b", "requires transitive static c", "package p", "module 0 b",
                "package p", "exports p", "module 0 d", "requires a");
        c.layer("d", 0, -1, false, 0);
        c.members(0, 2, 0);
        for (int descriptor = 0; descriptor < 3; descriptor++) {
            c.reads(0, 1, 0, descriptor, false);
        }
        c.layer("d b", 0, -1, false, ISE);
        c.faultIs(2);
    }

    /** A static one is looked up like another: also in the parent, when the finder's is no module. */
    private static void staticFoundAbove() {
        Check c = new Check();
        c.lines("module 0 b", "package p", "exports p", "module 1 b", "module 1 a", "requires static b", "module 1 c",
                "requires transitive static b", "module 1 d", "requires c");
        c.layer("b", 0, -1, false, 0);
        c.layer("a d", 1, 0, false, 1);
        c.members(1, 2, 4, 3);
        c.reads(1, 0, 0, 0, true);
        c.load("p", 1, 0, 0);
        c.reads(1, 1, 0, 0, true);
        c.layer("a b", 1, 0, false, 2);
        c.reads(2, 0, 0, 0, false);
        c.reads(2, 0, 2, 1, true);
    }

    /** "those others (never itself)", though one that it reads requires it transitively. */
    private static void neverItself() {
        Check c = new Check();
        c.lines("module 0 a", "requires transitive b", "package p", "exports p", "module 0 b",
                "requires transitive static a", "package q", "exports q", "module 0 c", "requires b");
        c.layer("c", 0, -1, false, 0);
        c.members(0, 2, 1);
        c.reads(0, 1, 0, 1, false);
        c.layer("c a", 0, -1, false, 1);
        c.members(1, 2, 1, 0);
        c.reads(1, 1, 1, 1, false);
        c.reads(1, 1, 1, 0, true);
        c.reads(1, 2, 1, 0, false);
        c.reads(1, 2, 1, 1, true);
        c.reads(1, 0, 1, 0, true);
        c.load("p", 1, 2, 16);
        c.load("q", 1, 1, 17);
    }

    /** "those that it requires, and those that these require transitively, and so on". */
    private static void requireTransitively() {
        Check c = new Check();
        c.lines("module 0 a", "requires b", "module 0 b", "requires transitive c", "requires e", "module 0 c",
                "requires transitive d", "module 0 d", "requires f", "module 0 e", "requires transitive f",
                "module 0 f");
        c.layer("a", 0, -1, false, 0);
        c.members(0, 0, 1, 2, 3, 5, 4);
        int[][] read = {{1, 2, 3}, {2, 3, 4, 5}, {3}, {5}, {}, {5}};
        for (int k = 0; k < 6; k++) {
            for (int descriptor = 0; descriptor < 6; descriptor++) {
                boolean want = false;
                for (int d : read[k]) {
                    want |= d == descriptor;
                }
                c.reads(0, k, 0, descriptor, want);
            }
        }
    }

    /** "a required one that is in a layer above reads as it did there; ... looked up from its own layer". */
    private static void aboveReadsAsItDid() {
        Check c = new Check();
        c.lines("module 0 a", "requires transitive static b", "requires transitive c", "module 0 c", "module 1 b",
                "module 1 c", "module 1 d", "requires a");
        c.layer("a", 0, -1, false, 0);
        c.layer("d b c", 1, 0, false, 1);
        c.members(1, 4, 2, 3);
        c.reads(1, 0, 0, 0, true);
        c.reads(1, 0, 0, 1, true);
        c.reads(1, 0, 1, 2, false);
        c.reads(1, 0, 1, 3, false);
        c.reads(0, 0, 1, 2, false);
        c.reads(0, 0, 0, 1, true);
    }

    /** "CYCLE: a module of the layer leads to itself by requires that are not static." */
    private static void cycleOfTwo() {
        Stand.Deed before = c -> c.lines("module 0 a", "requires b", "module 0 b", "requires transitive a", "module 0 c",
                "module 0 d", "requires b");
        refused(before, "a", 0, -1, false, ISE, 1);
        refused(before, "b", 0, -1, true, ISE, 1);
        refused(before, "c a", 0, -1, false, ISE, 1);
        refused(before, "d", 0, -1, false, ISE, 1);
        Stand.changed("no cycle", before, c -> c.layer("c", 0, -1, false, 0));
    }

    private static void cycleOfTwelve() {
        Check open = new Check();
        Check round = new Check();
        for (char name = 'a'; name < 'l'; name++) {
            open.lines("module 0 " + name, "requires " + (char) (name + 1));
            round.lines("module 0 " + name, "requires " + (char) (name + 1));
        }
        open.lines("module 0 l", "requires static a");
        round.lines("module 0 l", "requires a");
        open.layer("a", 0, -1, false, 0);
        open.modulesAre(0, 12);
        for (String root : new String[] {"a", "f", "l"}) {
            round.layer(root, 0, -1, false, ISE);
            round.faultIs(1);
        }
    }

    private static void cycleBesideTheRoot() {
        Check c = new Check();
        c.lines("module 0 a", "uses s", "module 0 b", "requires c", "module 0 c", "requires d", "module 0 d",
                "requires c", "module 0 e", "provides s", "requires b");
        c.layer("a", 0, -1, false, 0);
        c.layer("a b", 0, -1, false, ISE);
        c.faultIs(1);
        c.layer("a", 0, -1, true, ISE);
        c.faultIs(1);
        c.counts(5, 1, 1);
    }

    private static void noCycleByStatic() {
        Check c = new Check();
        c.lines("module 0 a", "requires b", "module 0 b", "requires static a", "module 0 c", "requires static d",
                "module 0 d", "requires transitive static c");
        c.layer("a", 0, -1, false, 0);
        c.layer("c d", 0, -1, false, 1);
        c.reads(1, 0, 1, 3, true);
        c.reads(1, 1, 1, 2, true);
    }

    /** One above that has the same name, or the same descriptor, is another module. */
    private static void noCycleThroughAbove() {
        Check name = new Check();
        name.lines("module 0 a", "module 0 b", "requires a", "module 1 a", "requires b");
        name.layer("b", 0, -1, false, 0);
        name.layer("a", 1, 0, false, 1);
        name.faultIs(0);
        name.reads(1, 0, 0, 1, true);
        name.reads(1, 0, 0, 0, false);
        Check same = new Check();
        same.lines("module 0 a", "module 1 b", "requires a", "module 0 c", "requires b");
        same.layer("a", 0, -1, false, 0);
        same.layer("b", 1, 0, false, 1);
        same.layer("c a", 0, 1, false, 2);
        same.members(2, 2, 0);
        same.reads(2, 0, 1, 1, true);
        same.faultIs(0);
    }

    /** "SPLIT: a module of the layer has a package that one that it reads exports to it". */
    private static void splitOwnAndRead() {
        Stand.Deed before = c -> c.lines("module 0 a", "package q", "package p", "requires b", "module 0 b",
                "package r", "package p", "exports p to a", "module 0 c", "package p", "requires b");
        refused(before, "a", 0, -1, false, ISE, 2);
        refused(before, "c a", 0, -1, true, ISE, 2);
        Stand.changed("no split", before, c -> c.layer("c", 0, -1, false, 0));
    }

    /** "or two that it reads export one of the same name to it". */
    private static void splitOfTwoRead() {
        Stand.Deed before = c -> c.lines("module 0 a", "requires b", "requires c", "module 0 b", "package p",
                "exports p", "module 0 c", "package q", "package p", "exports p to a", "module 0 d", "requires b",
                "requires c");
        refused(before, "a", 0, -1, false, ISE, 2);
        Stand.changed("to one of them alone", before, c -> c.layer("d", 0, -1, false, 0));
        Check far = new Check();
        far.lines("module 0 a", "requires b", "requires d", "module 0 b", "requires transitive c", "module 0 c",
                "package p", "exports p", "module 0 d", "requires transitive e", "module 0 e", "package p", "exports p");
        far.layer("b d", 0, -1, false, 0);
        far.layer("a", 0, 0, false, ISE);
        far.faultIs(2);
    }

    private static void splitNeedsExportsToIt() {
        String[] harmless = {"opens p", "exports p to c", "exports q", "opens p to a"};
        for (String line : harmless) {
            Check c = new Check();
            c.lines("module 0 b", "package p", "package q", line, "module 0 a", "package p", "requires b");
            c.layer("a", 0, -1, false, 0);
            c.load("p", 0, 0, 1);
        }
        for (String line : new String[] {"exports p", "exports p to a"}) {
            Check c = new Check();
            c.lines("module 0 b", "package p", "package q", line, "module 0 a", "package p", "requires b");
            c.layer("a", 0, -1, false, ISE);
            c.faultIs(2);
        }
    }

    private static void splitNeedsReading() {
        Check c = new Check();
        c.lines("module 0 a", "package p", "exports p", "module 0 b", "package p", "exports p", "module 0 c",
                "requires a", "module 0 d", "requires c", "requires b", "package q");
        c.layer("a b", 0, -1, false, 0);
        c.layer("c b", 0, -1, false, 1);
        c.layer("d", 0, -1, false, 2);
        c.load("p", 2, 0, 33);
        Check stat = new Check();
        stat.lines("module 0 a", "package p", "exports p", "module 0 b", "package p", "requires static a");
        stat.layer("b", 0, -1, false, 0);
        stat.layer("b a", 0, -1, false, ISE);
        stat.faultIs(2);
        stat.layer("a", 0, -1, false, 1);
        stat.layer("b", 0, 1, false, ISE);
        stat.faultIs(2);
    }

    private static void splitWithOneAbove() {
        Stand.Deed before = c -> {
            c.lines("module 0 a", "package p", "exports p", "module 1 b", "package p", "exports p", "module 1 c",
                    "requires a", "requires b", "module 1 d", "requires a", "package p");
            c.layer("a", 0, -1, false, 0);
        };
        refused(before, "c", 1, 0, false, ISE, 2);
        refused(before, "d", 1, 0, false, ISE, 2);
        Stand.changed("no split", before, c -> c.layer("b", 1, 0, false, 1));
        Check both = new Check();
        before.on(both);
        both.layer("b", 1, 0, false, 1);
        both.lines("module 0 e", "requires a", "requires b");
        both.layer("e", 0, 1, false, ISE);
        both.faultIs(2);
    }

    /** The module with the split may be any of the layer, the last one too. */
    private static void splitInAnyModule() {
        String[] orders = {"a b c", "a c b", "b a c", "b c a", "c a b", "c b a"};
        for (String order : orders) {
            Check c = new Check();
            c.lines("module 0 a", "package f", "package g", "package h", "package i", "package j", "package p",
                    "exports p", "module 0 b", "requires static a", "package f", "package g", "package h", "package i",
                    "package j", "package p", "module 0 c", "requires static a");
            c.layer(order, 0, -1, false, ISE);
            c.faultIs(2);
            c.layer("a c", 0, -1, false, 0);
        }
    }

    /** "(A package is exported to a module, when it is to all, or to its name.)" The finder is not asked. */
    private static void exportedToItsName() {
        Check c = new Check();
        c.lines("module 0 a", "package p", "exports p to b", "module 0 b", "requires a", "module 1 b", "requires a",
                "module 1 c", "requires a");
        c.layer("b", 0, -1, false, 0);
        c.load("p", 0, 0, 0);
        c.layer("b c", 1, 0, false, 1);
        c.load("p", 1, 0, 0);
        c.load("p", 1, 1, NSEE);
    }
}

/**
 * The boundary cases that the promises 1 to 13 name: a method for each, with the words of the
 * document above it.
 */
public final class EdgeTest {
    private static final int IAE = Check.IAE;
    private static final int ISE = Check.ISE;
    private static final int NSEE = Check.NSEE;
    private static final int MOST = Integer.MAX_VALUE;
    private static final int LEAST = Integer.MIN_VALUE;

    private static final String[] NO_NAME = {"", " ", "p p", "p q r", "ppppp", "P", "p1", "1", "`", "{", "p.", "-"};
    /** Lines about a descriptor that has the package p and nothing else of these. */
    private static final String[] ABOUT = {"package q", "exports p", "exports p to e", "opens p", "opens p to e",
        "requires e", "requires transitive e", "requires static e", "requires transitive static e", "uses u",
        "provides u"};

    public static void main(String[] args) {
        newObject();
        objectsAreApart();
        lastCall();
        writtenCharacters();
        fortyWritten();
        everyTakerEmptiesTheLine();
        lineWithoutWords();
        lineThatIsNone();
        lineWithoutDescriptor();
        lineAboutAModule();
        lineBehindALayerThatWasNotMade();
        moduleLineBehindALayer();
        numberOfRoots();
        namesOfRoots();
        finderOfALayer();
        parentOfALayer();
        firstThatHolds();
        firstThatHoldsWithFiveLayers();
        fourthAndFifthLayer();
        faultIsOfTheLatestLayer();
        closeWhatIsNot();
        closeAParent();
        closeLeavesOthers();
        countOfOthers();
        counts();
        modulesOfLayers();
        moduleOfLayers();
        readsWhatIsNotThere();
        readsTheSameOrAbove();
        loadWithoutModule();
        loadWithoutName();
        loadFromNowhere();
        loadFromItself();
        peekWithoutModule();
        peekWithoutName();
        peekWithoutPackage();
        peekIntoItself();
        peekNeedsReadingAndOpening();
        providerOfNoLayer();
        providerWithoutName();
        providerBeyondTheLast();
        askingLeavesTheLine();
        Check.end();
    }

    // Promise 1

    /** "No descriptors, no layers." */
    private static void newObject() {
        Check c = new Check();
        c.counts(0, 0, 0);
        c.faultIs(0);
        c.lineIsEmpty();
        for (int n = -1; n <= 5; n++) {
            c.modulesAre(n, -1);
            c.module(n, 0, -1);
            c.close(n, false);
            c.reads(n, 0, n, 0, false);
            c.load("p", n, 0, IAE);
            c.peek("p", n, 0, n, 0, IAE);
            c.provider("s", n, 0, IAE);
        }
        c.noLayer("a", 0, 0, IAE, 0);
        c.noLayer("a", 0, -1, NSEE, 0);
        c.noLayer("a", 1, -1, NSEE, 0);
        c.noLayer("", 0, -1, IAE, 0);
        c.counts(0, 0, 0);
    }

    private static void objectsAreApart() {
        Check one = new Check();
        Check other = new Check();
        one.write("module 0");
        other.lines("module 1 b");
        one.line(" a", 1);
        one.layer("a", 0, -1, false, 0);
        other.counts(1, 0, 0);
        one.counts(1, 1, 1);
        other.layer("a", 0, -1, false, NSEE);
        other.layer("b", 1, -1, false, 0);
        one.members(0, 0);
    }

    /** "used for at most 512 calls after it has been made": the last of them is answered like the first. */
    private static void lastCall() {
        Stand.Deed[] calls = {c -> c.count(2, 2), c -> c.members(1, 1), c -> c.layer("b", 1, 0, true, 2),
            c -> c.reads(1, 0, 0, 0, true), c -> c.load("p", 1, 0, 0), c -> c.peek("p", 0, 0, 0, 0, 1),
            c -> c.provider("s", 1, 0, 17), c -> c.close(1, true), c -> c.line("module 0 c", 1)};
        for (Stand.Deed call : calls) {
            Check first = new Check();
            twoLayers(first);
            int left = first.callsLeft();
            call.on(first);
            int needed = left - first.callsLeft();
            Check c = new Check();
            twoLayers(c);
            while (c.callsLeft() > needed) {
                c.fault();
            }
            call.on(c);
            Check.due("calls left", c.callsLeft(), 0);
        }
    }

    // Promise 2

    /** "Appends a character (32 .. 126) ...: true; false when ... it is none such." */
    private static void writtenCharacters() {
        int[] none = {0, 9, 10, 13, 31, 127, 128, 160, 255, 256, 256 + 'a', 32768, 65535};
        for (int code : none) {
            Check c = new Check();
            c.write("module 0 ");
            Check.due("write " + code, c.write(code), 0);
            c.line("a", 1);
            c.layer("a", 0, -1, false, 0);
        }
        for (int code = 32; code <= 126; code++) {
            Check c = new Check();
            Check.due("write " + code, c.write(code), 1);
            Check.due("line of " + code, c.line(), code == ' ' ? 0 : IAE);
        }
        for (int code = 0; code < 65536; code++) {
            Check.due("write " + code, new Check().write(code), code >= 32 && code <= 126 ? 1 : 0);
        }
        Check refused = new Check();
        for (int n = 0; n < 45; n++) {
            Check.due("write 127", refused.write(127), 0);
        }
        refused.lines("module 0                               a");
    }

    /** "false when there are 40": the fortieth is taken; what is refused is no part of the line. */
    private static void fortyWritten() {
        Check c = new Check();
        for (int n = 0; n < 40; n++) {
            Check.due("write " + n, c.write(' '), 1);
        }
        for (int code : new int[] {'a', ' ', '~', 31, 127}) {
            Check.due("the 41st", c.write(code), 0);
        }
        c.lineIsEmpty();
        c.line("module 0 a", 1);
    }

    /** "(it is empty then)": there is room for 40 again, whether the call throws or not. */
    private static void everyTakerEmptiesTheLine() {
        String full = "                                       a";
        String wrong = "                                     a A";
        for (String text : new String[] {full, wrong}) {
            Check c = new Check();
            c.lines("module 0 a", "package a", "provides a");
            c.line(text, IAE);
            c.layer(text, 0, -1, false, text.equals(full) ? 0 : IAE);
            c.load(text, 0, 0, text.equals(full) ? 0 : IAE);
            c.peek(text, 0, 0, 0, 0, text.equals(full) ? 1 : IAE);
            c.provider(text, 0, 0, text.equals(full) ? 0 : IAE);
            c.lineIsEmpty();
            c.write(full);
        }
        Check gone = new Check();
        gone.lines("module 0 a");
        gone.layer("b", 0, -1, false, NSEE);
        gone.layer("a", 0, -1, false, 0);
        gone.load("p", 0, 0, NSEE);
        gone.peek("p", 0, 0, 0, 0, NSEE);
        gone.provider("s", 0, 0, -1);
        gone.line("module 1 a", 1);
    }

    // Promise 3

    /** "0 it has no words": empty, one blank, or full of them; nothing comes of it. */
    private static void lineWithoutWords() {
        Stand.Deed[] befores = {c -> { }, c -> c.lines("module 0 a", "package p"), EdgeTest::twoLayers};
        for (Stand.Deed before : befores) {
            for (String text : new String[] {"", " ", "  ", "                                        "}) {
                Check c = new Check();
                before.on(c);
                c.line(text, 0);
                Stand.unchanged("a line without words", before, d -> d.line(text, 0));
            }
        }
    }

    /** "IllegalArgumentException when it is none", in whatever state. */
    private static void lineThatIsNone() {
        String[] texts = {"a", "to", "0", "module", "module 0", "module a", "module 0 b c", "modules 0 b", "Module 0 b",
            "package", "package q r", "packages q", "exports", "exports p to", "exports p b", "exports p to b c",
            "exports to p", "exports p for b", "opens", "opens p to", "opens p b", "opens p to b c", "opens p for b",
            "requires", "requires b c", "use s", "uses", "uses s t", "provides", "provides s t", "provides s with t",
            "close 0", ".", "module;0;b", "~"};
        Stand.Deed[] befores = {c -> { }, c -> c.lines("module 0 a", "package p"), EdgeTest::twoLayers};
        for (Stand.Deed before : befores) {
            for (String text : texts) {
                refusedLine(before, text, IAE);
            }
        }
    }

    private static void refusedLine(Stand.Deed before, String text, int want) {
        Check c = new Check();
        before.on(c);
        c.line(text, want);
        c.lineIsEmpty();
        Stand.unchanged("line \"" + text + "\"", before, d -> d.line(text));
    }

    /** "IllegalStateException when it is one, but ... there is no descriptor yet". */
    private static void lineWithoutDescriptor() {
        for (String text : ABOUT) {
            refusedLine(c -> { }, text, ISE);
            Check c = new Check();
            c.lines("module 0 a", "package p", text);
        }
        Stand.changed("the first descriptor", c -> { }, c -> c.line("module 0 a", 1));
    }

    /** "or the latest one is a module of some layer that was made (closed ones, too)". */
    private static void lineAboutAModule() {
        Stand.Deed root = c -> {
            c.lines("module 0 b", "module 0 a", "package p");
            c.layer("a", 0, -1, false, 0);
        };
        Stand.Deed closed = c -> {
            root.on(c);
            c.close(0, true);
        };
        Stand.Deed later = c -> {
            closed.on(c);
            c.layer("b", 0, -1, false, 1);
        };
        Stand.Deed required = c -> {
            c.lines("module 0 b", "requires a", "module 0 a", "package p");
            c.layer("b", 0, -1, false, 0);
        };
        Stand.Deed bound = c -> {
            c.lines("module 0 b", "uses s", "module 0 a", "package p", "provides s");
            c.layer("b", 0, -1, true, 0);
        };
        for (Stand.Deed before : new Stand.Deed[] {root, closed, later, required, bound}) {
            for (String text : ABOUT) {
                refusedLine(before, text, ISE);
            }
            refusedLine(before, "package p", IAE);
            refusedLine(before, "exports n", IAE);
            refusedLine(before, "requires a", IAE);
        }
        Stand.Deed rich = c -> {
            c.lines("module 0 a", "package p", "exports p", "opens p to e", "requires static b", "uses s", "provides t");
            c.layer("a", 0, -1, false, 0);
        };
        for (String text : new String[] {"exports p", "exports p to e", "opens p to e", "uses t", "provides s"}) {
            refusedLine(rich, text, ISE);
        }
        for (String text : new String[] {"package p", "opens q", "requires b", "requires a", "uses s", "provides t"}) {
            refusedLine(rich, text, IAE);
        }
        for (String text : ABOUT) {
            Check other = new Check();
            other.lines("module 0 b", "module 0 a", "package p");
            other.layer("b", 0, -1, false, 0);
            other.lines(text);
        }
    }

    /** A layer that was not made makes no module of the latest one. */
    private static void lineBehindALayerThatWasNotMade() {
        for (String text : ABOUT) {
            Check c = new Check();
            c.lines("module 0 b", "requires a", "module 0 a", "package p");
            c.layer("a z", 0, -1, false, NSEE);
            c.layer("a", 0, 0, false, IAE);
            c.lines(text);
        }
        Check cycle = new Check();
        cycle.lines("module 0 b", "requires a", "package p", "module 0 a", "requires b");
        cycle.layer("a", 0, -1, false, ISE);
        cycle.lines("package p");
        Check split = new Check();
        split.lines("module 0 b", "package p", "exports p", "module 0 a", "requires b", "package p");
        split.layer("a", 0, -1, false, ISE);
        split.faultIs(2);
        split.lines("package q");
        Check goneAgain = new Check();
        goneAgain.lines("module 0 b", "uses s", "module 0 a", "provides s", "requires z");
        goneAgain.layer("b", 0, -1, true, 0);
        goneAgain.lines("package q");
    }

    /** "1 a descriptor": it is not about the latest one, so that a layer is no hindrance. */
    private static void moduleLineBehindALayer() {
        Check c = new Check();
        c.lines("module 0 a");
        c.layer("a", 0, -1, false, 0);
        c.line("package p", ISE);
        c.lines("module 0 b", "package p");
        c.layer("b", 0, 0, false, 1);
        c.load("p", 1, 0, 17);
    }

    // Promise 4

    private static void twoLayers(Check c) {
        c.lines("module 0 a", "package p", "exports p", "module 1 b", "requires a", "provides s");
        c.layer("a", 0, -1, false, 0);
        c.layer("b", 1, 0, false, 1);
    }

    private static void refusedLayer(Stand.Deed before, String roots, int finder, int parent, int want, int wantFault) {
        Check c = new Check();
        before.on(c);
        c.noLayer(roots, finder, parent, want, wantFault);
        c.lineIsEmpty();
        Stand.unchangedButFault("layer \"" + roots + "\"", before, d -> d.layer(roots, finder, parent, false));
        Stand.unchangedButFault("layer \"" + roots + "\"", before, d -> d.layer(roots, finder, parent, true));
    }

    private static void threeDescriptors(Check c) {
        c.lines("module 0 a", "module 0 b", "module 0 c", "package p");
    }

    /** "The line is one to three names, the roots". */
    private static void numberOfRoots() {
        String[] taken = {"a", "a b", "a b c", "c b a", " a  b   c ", "a a a"};
        int[] modules = {1, 2, 3, 3, 3, 1};
        for (int i = 0; i < taken.length; i++) {
            Check c = new Check();
            threeDescriptors(c);
            c.layer(taken[i], 0, -1, false, 0);
            c.lineIsEmpty();
            c.modulesAre(0, modules[i]);
        }
        for (String roots : new String[] {"", " ", "                                        ", "a b c a", "a a a a",
            "a b c a b"}) {
            refusedLayer(EdgeTest::threeDescriptors, roots, 0, -1, IAE, 0);
        }
    }

    private static void namesOfRoots() {
        Check c = new Check();
        c.lines("module 0 aaaa", "module 0 z");
        c.layer("aaaa z", 0, -1, false, 0);
        c.members(0, 0, 1);
        for (String word : new String[] {"aaaaa", "A", "`", "{", "0", "a1", "a,b", "-1"}) {
            refusedLayer(EdgeTest::threeDescriptors, word, 0, -1, IAE, 0);
            refusedLayer(EdgeTest::threeDescriptors, word + " a b", 0, -1, IAE, 0);
            refusedLayer(EdgeTest::threeDescriptors, "a b " + word, 0, -1, IAE, 0);
        }
    }

    /** "there is no such finder": 0 and 1 are, others are not. */
    private static void finderOfALayer() {
        for (int finder : new int[] {-1, 2, 3, 256, 65536, MOST, LEAST}) {
            refusedLayer(EdgeTest::twoLayers, "a", finder, -1, IAE, 0);
        }
        Check c = new Check();
        twoLayers(c);
        c.layer("a", 0, -1, false, 2);
        c.layer("b", 1, 0, false, 3);
    }

    /** "parent is no open layer nor -1". */
    private static void parentOfALayer() {
        for (int parent : new int[] {-2, 2, 3, 4, 5, 16, MOST, LEAST}) {
            refusedLayer(EdgeTest::twoLayers, "a", 0, parent, IAE, 0);
        }
        Stand.Deed closed = c -> {
            twoLayers(c);
            c.close(1, true);
        };
        refusedLayer(closed, "a", 0, 1, IAE, 0);
        for (int parent = -1; parent < 2; parent++) {
            Check c = new Check();
            twoLayers(c);
            c.layer("a", 0, parent, false, 2);
        }
    }

    private static void faulty(Check c) {
        c.lines("module 0 a", "package p", "requires b", "module 0 b", "package p", "exports p", "module 0 c",
                "requires d", "module 0 d", "requires c", "module 0 e");
    }

    /** "The first that holds": all that a layer may be refused for, each before those behind it. */
    private static void firstThatHolds() {
        refusedLayer(EdgeTest::faulty, "c a z Z", 0, -1, IAE, 0);
        refusedLayer(EdgeTest::faulty, "c a z", 2, -1, IAE, 0);
        refusedLayer(EdgeTest::faulty, "c a z", 0, 0, IAE, 0);
        refusedLayer(EdgeTest::faulty, "c a z", 0, -1, NSEE, 0);
        refusedLayer(EdgeTest::faulty, "a z", 0, -1, NSEE, 0);
        refusedLayer(EdgeTest::faulty, "a c", 0, -1, ISE, 1);
        refusedLayer(EdgeTest::faulty, "a", 0, -1, ISE, 2);
        Stand.changed("none holds", EdgeTest::faulty, c -> c.layer("e b", 0, -1, false, 0));
    }

    private static void firstThatHoldsWithFiveLayers() {
        Stand.Deed five = c -> {
            faulty(c);
            for (int n = 0; n < 5; n++) {
                c.layer("e", 0, n - 1, false, n);
            }
        };
        refusedLayer(five, "e E", 0, -1, IAE, 0);
        refusedLayer(five, "e", -1, -1, IAE, 0);
        refusedLayer(five, "e", 0, 5, IAE, 0);
        refusedLayer(five, "e z", 0, 4, NSEE, 0);
        refusedLayer(five, "c a", 0, 4, ISE, 1);
        refusedLayer(five, "a", 0, 4, ISE, 2);
        refusedLayer(five, "e", 0, 4, ISE, 3);
        refusedLayer(five, "e", 0, -1, ISE, 3);
    }

    /** "when five layers were made": four are not yet too many. */
    private static void fourthAndFifthLayer() {
        Stand.Deed four = c -> {
            c.lines("module 0 a");
            for (int n = 0; n < 4; n++) {
                c.layer("a", 0, -1, false, n);
            }
        };
        Stand.changed("the fifth", four, c -> c.layer("a", 0, -1, false, 4));
        refusedLayer(c -> {
            four.on(c);
            c.layer("a", 0, 3, false, 4);
        }, "a", 0, 4, ISE, 3);
    }

    // Promise 5

    /** "Why the latest layer() threw IllegalStateException ...; 0 when it did not." */
    private static void faultIsOfTheLatestLayer() {
        String[][] calls = {{"e E", "0"}, {"z", "0"}, {"c", "1"}, {"a", "2"}, {"e", "0"}};
        for (String[] first : calls) {
            for (String[] second : calls) {
                Check c = new Check();
                faulty(c);
                c.layer(first[0], 0, -1, false);
                c.faultIs(Integer.parseInt(first[1]));
                c.faultIs(Integer.parseInt(first[1]));
                c.layer(second[0], 0, -1, false);
                c.faultIs(Integer.parseInt(second[1]));
            }
        }
        Check others = new Check();
        faulty(others);
        others.layer("b", 0, -1, false, 0);
        others.layer("a", 0, -1, false, ISE);
        others.line("package p", 2);
        others.line("package p", IAE);
        others.load("zz", 0, 0, NSEE);
        others.peek("zz", 0, 0, 0, 1, NSEE);
        others.provider("s", 3, 0, IAE);
        others.close(0, true);
        others.close(0, false);
        others.count(7, -1);
        others.faultIs(2);
    }

    // Promise 6

    /** "false when there is none such, it is closed". */
    private static void closeWhatIsNot() {
        for (int layer : new int[] {-1, -2, 2, 3, 4, 5, 16, 32, MOST, LEAST}) {
            Check c = new Check();
            twoLayers(c);
            c.close(layer, false);
            Stand.unchanged("close " + layer, EdgeTest::twoLayers, d -> d.close(layer));
        }
        Stand.changed("close 1", EdgeTest::twoLayers, d -> d.close(1, true));
        Stand.Deed closed = c -> {
            twoLayers(c);
            c.close(1, true);
        };
        Stand.unchanged("close again", closed, d -> d.close(1, false));
    }

    /** "or it is the parent of one that is open": of one that is closed it may be. */
    private static void closeAParent() {
        Stand.unchanged("close a parent", EdgeTest::twoLayers, d -> d.close(0, false));
        Check c = new Check();
        twoLayers(c);
        c.layer("a", 0, 0, false, 2);
        c.layer("a", 0, 2, false, 3);
        c.close(0, false);
        c.close(1, true);
        c.close(0, false);
        c.close(2, false);
        c.close(3, true);
        c.close(0, false);
        c.close(2, true);
        c.close(0, true);
        c.close(0, false);
        c.count(2, 0);
    }

    /** A layer that is closed takes nothing from the others. */
    private static void closeLeavesOthers() {
        Check c = new Check();
        twoLayers(c);
        c.layer("b", 1, 0, false, 2);
        c.close(1, true);
        c.members(0, 0);
        c.members(2, 1);
        c.modulesAre(1, -1);
        c.reads(2, 0, 0, 0, true);
        c.load("p", 2, 0, 0);
        c.provider("s", 2, 0, 33);
        c.counts(2, 3, 2);
    }

    // Promise 7

    /** "-1 for others". */
    private static void countOfOthers() {
        for (int what : new int[] {-1, -2, 3, 4, 256, 65536, MOST, LEAST}) {
            Check c = new Check();
            twoLayers(c);
            c.count(what, -1);
            Stand.unchanged("count " + what, EdgeTest::twoLayers, d -> d.count(what));
        }
    }

    /** From none to the most of each. */
    private static void counts() {
        Check c = new Check();
        for (int n = 0; n < 12; n++) {
            c.counts(n, 0, 0);
            c.lines("module 0 " + (char) ('a' + n));
        }
        c.line("module 0 m", ISE);
        for (int n = 0; n < 5; n++) {
            c.counts(12, n, n);
            c.layer("a", 0, -1, false, n);
        }
        c.layer("a", 0, -1, false, ISE);
        for (int n = 0; n < 5; n++) {
            c.counts(12, 5, 5 - n);
            c.close(n, true);
        }
        c.counts(12, 5, 0);
    }

    // Promises 8 and 9

    /** "-1 when there is no such one, or it is closed"; none and twelve are numbers, too. */
    private static void modulesOfLayers() {
        Check c = new Check();
        for (char name = 'a'; name <= 'k'; name++) {
            c.lines("module 0 " + name, "requires " + (char) (name + 1));
        }
        c.lines("module 0 l");
        c.layer("a", 0, -1, false, 0);
        c.layer("a", 1, 0, false, 1);
        c.modulesAre(0, 12);
        c.modulesAre(1, 0);
        for (int layer : new int[] {-1, 2, 3, 4, 5, 16, MOST, LEAST}) {
            c.modulesAre(layer, -1);
        }
        c.close(1, true);
        c.modulesAre(1, -1);
        c.modulesAre(0, 12);
        c.close(0, true);
        c.modulesAre(0, -1);
    }

    /** "-1 when there is none (or the layer is closed)". */
    private static void moduleOfLayers() {
        Check c = new Check();
        c.lines("module 0 a", "module 0 b", "module 0 c");
        c.layer("c a", 0, -1, false, 0);
        c.layer("c", 1, 0, false, 1);
        c.module(0, 0, 2);
        c.module(0, 1, 0);
        for (int k : new int[] {-1, 2, 3, 11, 12, 13, 16, MOST, LEAST}) {
            c.module(0, k, -1);
        }
        for (int layer : new int[] {-1, 2, 3, 4, 5, 16, MOST, LEAST}) {
            c.module(layer, 0, -1);
        }
        c.module(1, -1, -1);
        c.module(1, 0, -1);
        c.close(1, true);
        c.close(0, true);
        c.module(0, 0, -1);
        Check full = new Check();
        for (char name = 'a'; name <= 'l'; name++) {
            full.lines("module 0 " + name, name < 'l' ? "requires " + (char) (name + 1) : "uses s");
        }
        full.layer("a", 0, -1, false, 0);
        full.module(0, 11, 11);
        full.module(0, 12, -1);
    }

    // Promise 10

    /** "False when one is not there." */
    private static void readsWhatIsNotThere() {
        for (int n : new int[] {-1, -2, 2, 3, 4, 5, 11, 12, 16, 31, 32, 33, 64, MOST, LEAST}) {
            Check c = new Check();
            twoLayers(c);
            c.reads(1, 0, 0, 0, true);
            c.reads(n, 0, 0, 0, false);
            c.reads(1, n, 0, 0, false);
            c.reads(1, 0, n, 0, false);
            c.reads(1, 0, 0, n, false);
            Stand.unchanged("reads", EdgeTest::twoLayers, d -> d.reads(1, 0, 0, n));
        }
        Check c = new Check();
        twoLayers(c);
        c.reads(1, 1, 0, 0, false);
        c.reads(1, 0, 0, 1, false);
        c.reads(1, 0, 1, 0, false);
        c.close(1, true);
        c.reads(1, 0, 0, 0, false);
    }

    /** "the module of a layer (the same one, or one above)", the last descriptor and the last layer too. */
    private static void readsTheSameOrAbove() {
        Check c = new Check();
        for (char name = 'a'; name <= 'k'; name++) {
            c.lines("module 0 " + name);
        }
        c.lines("module 1 l", "requires k");
        c.layer("k", 0, -1, false, 0);
        for (int n = 1; n < 4; n++) {
            c.layer("a", 0, n - 1, false, n);
        }
        c.layer("l", 1, 3, false, 4);
        c.reads(4, 0, 0, 10, true);
        c.reads(4, 0, 3, 0, false);
        c.reads(4, 0, 4, 11, false);
        c.reads(0, 0, 4, 11, false);
        Check beside = new Check();
        twoLayers(beside);
        beside.layer("a", 0, -1, false, 2);
        beside.reads(1, 0, 2, 0, false);
        beside.reads(2, 0, 0, 0, false);
    }

    // Promise 11

    private static void refusedLoad(String text, int layer, int k, int want) {
        Check c = new Check();
        twoLayers(c);
        c.load(text, layer, k, want);
        c.lineIsEmpty();
        Stand.unchanged("load \"" + text + "\"", EdgeTest::twoLayers, d -> d.load(text, layer, k));
    }

    /** "IllegalArgumentException when there is no such module". */
    private static void loadWithoutModule() {
        for (int n : new int[] {-1, 2, 4, 5, 12, 16, MOST, LEAST}) {
            refusedLoad("p", n, 0, IAE);
            refusedLoad("p", 0, n, IAE);
            refusedLoad("zz", 0, n, IAE);
        }
        refusedLoad("p", 0, 1, IAE);
        Check c = new Check();
        twoLayers(c);
        c.layer("a", 1, 1, false, 2);
        c.load("p", 2, 0, IAE);
        c.close(2, true);
        c.close(1, true);
        c.load("p", 1, 0, IAE);
        c.lineIsEmpty();
        c.load("p", 0, 0, 0);
    }

    /** "or the line is no name". */
    private static void loadWithoutName() {
        for (String text : NO_NAME) {
            refusedLoad(text, 0, 0, IAE);
            refusedLoad(text, 1, 0, IAE);
        }
        Check c = new Check();
        c.lines("module 0 a", "package zzzz", "package a");
        c.layer("a", 0, -1, false, 0);
        c.load("zzzz", 0, 0, 0);
        c.load("  a ", 0, 0, 0);
    }

    /** "NoSuchElementException when it gets it from nowhere". */
    private static void loadFromNowhere() {
        refusedLoad("q", 0, 0, NSEE);
        refusedLoad("q", 1, 0, NSEE);
        refusedLoad("a", 1, 0, NSEE);
        refusedLoad("zzzz", 1, 0, NSEE);
        Check c = new Check();
        c.lines("module 0 a", "package p", "opens p", "package q", "exports q to c", "package r", "exports r",
                "module 0 b", "requires a", "module 0 c");
        c.layer("b c", 0, -1, false, 0);
        c.load("p", 0, 0, NSEE);
        c.load("q", 0, 0, NSEE);
        c.load("q", 0, 2, NSEE);
        c.load("r", 0, 2, NSEE);
        c.load("r", 0, 0, 0);
    }

    /** "itself when it has it", exported or not; the largest answer is of layer 4 and descriptor 11. */
    private static void loadFromItself() {
        Check c = new Check();
        for (char name = 'a'; name <= 'k'; name++) {
            c.lines("module 0 " + name);
        }
        c.lines("module 0 l", "package p");
        for (int n = 0; n < 5; n++) {
            c.layer("l", 0, n - 1, false, n);
            c.load("p", n, 0, 16 * n + 11);
        }
        c.peek("p", 4, 0, 4, 11, 1);
        c.peek("p", 4, 0, 3, 11, 0);
    }

    // Promise 12

    private static void refusedPeek(String text, int layer, int k, int target, int descriptor, int want) {
        Check c = new Check();
        twoLayers(c);
        c.peek(text, layer, k, target, descriptor, want);
        c.lineIsEmpty();
        Stand.unchanged("peek \"" + text + "\"", EdgeTest::twoLayers, d -> d.peek(text, layer, k, target, descriptor));
    }

    /** "IllegalArgumentException when a module is not there". */
    private static void peekWithoutModule() {
        for (int n : new int[] {-1, 2, 4, 5, 12, 16, 32, MOST, LEAST}) {
            refusedPeek("p", n, 0, 0, 0, IAE);
            refusedPeek("p", 0, n, 0, 0, IAE);
            refusedPeek("p", 0, 0, n, 0, IAE);
            refusedPeek("p", 0, 0, 0, n, IAE);
            refusedPeek("zz", 0, 0, 0, n, IAE);
            refusedPeek("zz", n, 0, 0, 0, IAE);
        }
        refusedPeek("p", 0, 1, 0, 0, IAE);
        refusedPeek("p", 0, 0, 0, 1, IAE);
        refusedPeek("p", 0, 0, 1, 0, IAE);
        Check c = new Check();
        twoLayers(c);
        c.close(1, true);
        c.peek("p", 1, 0, 0, 0, IAE);
        c.peek("p", 0, 0, 1, 1, IAE);
        c.lineIsEmpty();
        c.peek("p", 0, 0, 0, 0, 1);
    }

    private static void peekWithoutName() {
        for (String text : NO_NAME) {
            refusedPeek(text, 0, 0, 0, 0, IAE);
            refusedPeek(text, 1, 0, 0, 0, IAE);
        }
    }

    /** "NoSuchElementException when the module has no such package": the one looked into, not the one that looks. */
    private static void peekWithoutPackage() {
        refusedPeek("q", 0, 0, 0, 0, NSEE);
        refusedPeek("q", 1, 0, 0, 0, NSEE);
        refusedPeek("p", 1, 0, 1, 1, NSEE);
        refusedPeek("p", 0, 0, 1, 1, NSEE);
        refusedPeek("zzzz", 1, 0, 0, 0, NSEE);
    }

    /** "it is the module itself": then opened or not; the same descriptor in another layer is another. */
    private static void peekIntoItself() {
        Check c = new Check();
        c.lines("module 0 a", "package p");
        c.layer("a", 0, -1, false, 0);
        c.layer("a", 0, 0, false, 1);
        c.peek("p", 0, 0, 0, 0, 1);
        c.peek("p", 1, 0, 1, 0, 1);
        c.peek("p", 1, 0, 0, 0, 0);
        c.peek("p", 0, 0, 1, 0, 0);
    }

    /** "or it reads it and the package is opened to all or to it". */
    private static void peekNeedsReadingAndOpening() {
        Check c = new Check();
        c.lines("module 0 a", "package p", "opens p", "package q", "opens q to b", "opens q to d", "package r",
                "exports r", "module 0 b", "requires a", "module 0 c", "requires a", "module 0 d");
        c.layer("b c d", 0, -1, false, 0);
        c.members(0, 1, 0, 2, 3);
        int[][] due = {{1, 1, 0}, {1, 1, 1}, {1, 0, 0}, {0, 0, 0}};
        for (int k = 0; k < 4; k++) {
            c.peek("p", 0, k, 0, 0, due[k][0]);
            c.peek("q", 0, k, 0, 0, due[k][1]);
            c.peek("r", 0, k, 0, 0, due[k][2]);
        }
        c.lineIsEmpty();
        Stand.unchanged("peek", EdgeTest::twoLayers, d -> d.peek("p", 1, 0, 0, 0, 0));
    }

    // Promise 13

    private static void refusedProvider(String text, int layer, int i, int want) {
        Check c = new Check();
        twoLayers(c);
        c.provider(text, layer, i, want);
        c.lineIsEmpty();
        Stand.unchanged("provider \"" + text + "\"", EdgeTest::twoLayers, d -> d.provider(text, layer, i));
    }

    /** "IllegalArgumentException when the layer is not open". */
    private static void providerOfNoLayer() {
        for (int layer : new int[] {-1, -2, 2, 4, 5, 16, MOST, LEAST}) {
            refusedProvider("s", layer, 0, IAE);
            refusedProvider("s", layer, -1, IAE);
        }
        Check c = new Check();
        twoLayers(c);
        c.provider("s", 1, 0, 17);
        c.close(1, true);
        c.provider("s", 1, 0, IAE);
        c.lineIsEmpty();
        c.provider("s", 0, 0, -1);
    }

    private static void providerWithoutName() {
        for (String text : NO_NAME) {
            refusedProvider(text, 0, 0, IAE);
            refusedProvider(text, 1, 0, IAE);
            refusedProvider(text, 1, MOST, IAE);
        }
    }

    /** "provider i (from 0) ...; -1 when there are not so many". */
    private static void providerBeyondTheLast() {
        for (int i : new int[] {-1, 1, 2, 16, MOST, LEAST}) {
            refusedProvider("s", 1, i, -1);
        }
        refusedProvider("s", 0, 0, -1);
        refusedProvider("p", 1, 0, -1);
        refusedProvider("zzzz", 1, 0, -1);
        Check c = new Check();
        c.lines("module 0 a", "provides s", "module 0 b", "provides t", "provides u", "provides s", "module 1 c",
                "provides s", "uses t");
        c.layer("b a", 0, -1, false, 0);
        c.layer("b", 0, 0, false, 1);
        c.layer("c", 1, 1, false, 2);
        int[] codes = {34, 17, 1, 0, -1, -1};
        for (int i = 0; i < codes.length; i++) {
            c.provider("s", 2, i, codes[i]);
        }
        c.provider("s", 0, 1, 0);
        c.provider("s", 0, 2, -1);
        c.provider("t", 2, 1, 1);
        c.provider("t", 2, 2, -1);
    }

    /** The calls that do not take the line leave what was written, whatever they answer. */
    private static void askingLeavesTheLine() {
        Stand.Deed[] calls = {c -> c.fault(), c -> c.close(0), c -> c.close(1), c -> c.close(7), c -> c.count(0),
            c -> c.count(9), c -> c.modules(0), c -> c.modules(9), c -> c.module(0, 0), c -> c.module(0, 9),
            c -> c.reads(1, 0, 0, 0), c -> c.reads(9, 9, 9, 9), c -> c.write(31), c -> c.write(127)};
        for (Stand.Deed call : calls) {
            Check c = new Check();
            twoLayers(c);
            c.write("module ");
            call.on(c);
            c.line("0 c", 1);
            c.count(0, 3);
        }
    }
}

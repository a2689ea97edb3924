/**
 * The boundary cases that the section "Terms" names about names, descriptors and lines: a method
 * for each, with the words of the document above it.
 */
public final class TermsTest {
    private static final int IAE = Check.IAE;
    private static final int ISE = Check.ISE;

    private static final String[] NAMES = {"a", "z", "m", "az", "zzz", "aaaa", "zzzz", "abcd"};
    private static final String[] NO_NAMES = {"aaaaa", "zzzzz", "`", "{", "A", "Z", "@", "[", "0", "9", "a0", "0a", "aB",
        "aaa`", "aaa{", "{aaa", "a.b", "a,", "-", "_", "~", "!"};

    public static void main(String[] args) {
        namesInLines();
        namesAreToldApart();
        numbersOfDescriptors();
        atMostTwelve();
        finders();
        oneNameInAFinder();
        atMostSixPackages();
        grants("exports");
        grants("opens");
        atMostThreeNames("exports");
        atMostThreeNames("opens");
        threeNamesForEach();
        atMostFiveRequires();
        kindsOfRequires();
        atMostThreeServices("uses", "provides");
        atMostThreeServices("provides", "uses");
        atMostFortyCharacters();
        blanks();
        theDescriptorOfTheNextLines();
        packageNotSoAlready();
        oneOfItsPackages("exports");
        oneOfItsPackages("opens");
        toAllIsForGood("exports");
        toAllIsForGood("opens");
        namesAreAdded("exports");
        namesAreAdded("opens");
        oneThatIsThereAlready("exports");
        oneThatIsThereAlready("opens");
        exportedIsNotOpened();
        formsOfRequires();
        notItsOwnName();
        notOneRequiredAlready();
        servicesNotSoAlready("uses", "provides");
        servicesNotSoAlready("provides", "uses");
        Check.end();
    }

    private static void described(Check c) {
        c.lines("module 0 x", "package p");
    }

    private static void taken(String text) {
        Check c = new Check();
        described(c);
        c.lines(text);
        c.lineIsEmpty();
    }

    /** A line that is none, or has no place: the answer, the line that is empty then, and all as it was. */
    private static void refused(Stand.Deed before, String text, int want) {
        Check c = new Check();
        before.on(c);
        c.line(text, want);
        c.lineIsEmpty();
        Stand.unchanged("line \"" + text + "\"", before, d -> d.line(text));
    }

    /** "NAMES are words of one to four letters a .. z", wherever a line has one. */
    private static void namesInLines() {
        String[] places = {"module 0 ", "module 1 ", "package ", "exports p to ", "opens p to ", "requires ",
            "requires transitive ", "requires static ", "requires transitive static ", "uses ", "provides "};
        for (String place : places) {
            for (String name : NAMES) {
                taken(place + name);
            }
            for (String word : NO_NAMES) {
                refused(TermsTest::described, place + word, IAE);
            }
            refused(TermsTest::described, place, IAE);
        }
        for (String word : NO_NAMES) {
            refused(TermsTest::described, "exports " + word, IAE);
            refused(TermsTest::described, "opens " + word + " to b", IAE);
        }
    }

    /** Names of other letters, of another order of them or of another length are others. */
    private static void namesAreToldApart() {
        String[] names = {"a", "aa", "aaa", "aaaa", "ab", "ba", "b", "za", "az", "aaz", "z", "zzzz"};
        Check c = new Check();
        for (String name : names) {
            c.line("module 0 " + name, 1);
        }
        for (int i = 0; i < 5; i++) {
            c.layer(names[i], 0, -1, false, i);
            c.members(i, i);
        }
        Check packages = new Check();
        packages.lines("module 0 a", "package ab", "package ba", "package aa", "package aaa", "package b", "package a");
    }

    /** "DESCRIPTORS are numbered 0, 1, .. as they are made", whatever their finders and names. */
    private static void numbersOfDescriptors() {
        Check c = new Check();
        c.lines("module 1 z", "module 0 y", "module 1 a", "module 0 b");
        c.layer("a z", 1, -1, false, 0);
        c.members(0, 2, 0);
        c.layer("b y", 0, -1, false, 1);
        c.members(1, 3, 1);
    }

    private static void eleven(Check c) {
        for (char name = 'a'; name < 'a' + 11; name++) {
            c.line("module " + name % 2 + " " + name, 1);
        }
    }

    private static void twelve(Check c) {
        eleven(c);
        c.lines("module 0 l", "package p");
    }

    /** "at most 12": the twelfth is taken, a thirteenth has no room; the next lines are about the twelfth. */
    private static void atMostTwelve() {
        Check c = new Check();
        eleven(c);
        c.count(0, 11);
        c.line("module 1 l", 1);
        c.count(0, 12);
        Stand.changed("the twelfth", TermsTest::eleven, d -> d.line("module 0 l", 1));
        refused(TermsTest::twelve, "module 0 m", ISE);
        refused(TermsTest::twelve, "module 1 m", ISE);
        refused(TermsTest::twelve, "module 1 l", ISE);
        refused(TermsTest::twelve, "module 0 l", IAE);
        Check next = new Check();
        twelve(next);
        next.line("module 0 m", ISE);
        next.line("package p", IAE);
        next.lines("package q", "exports q");
        next.layer("l", 0, -1, false, 0);
        next.members(0, 11);
        next.load("q", 0, 0, 11);
    }

    /** "each in a FINDER, 0 or 1"; "module F N (F 0 or 1: the finder)". */
    private static void finders() {
        taken("module 0 b");
        taken("module 1 b");
        for (String word : new String[] {"2", "9", "/", ":", "-1", "-0", "+1", "00", "01", "10", "o", "l", "a", ""}) {
            refused(TermsTest::described, "module " + word + " b", IAE);
        }
        Check c = new Check();
        c.lines("module 0 a", "module 1 b");
        c.layer("b", 0, -1, false, Check.NSEE);
        c.layer("a", 1, -1, false, Check.NSEE);
        c.layer("a", 0, -1, false, 0);
        c.layer("b", 1, -1, false, 1);
    }

    /** "no two of one finder with the same name": the second is none; the next lines are about the former. */
    private static void oneNameInAFinder() {
        Stand.Deed two = c -> c.lines("module 0 a", "module 1 b", "package p");
        refused(two, "module 0 a", IAE);
        refused(two, "module 1 b", IAE);
        Check c = new Check();
        two.on(c);
        c.line("module 0 a", IAE);
        c.lines("package q", "module 1 a", "module 0 b");
        c.count(0, 4);
        c.layer("b", 1, -1, false, 0);
        c.load("q", 0, 0, 1);
        Check settled = new Check();
        settled.lines("module 0 a");
        settled.layer("a", 0, -1, false, 0);
        settled.line("module 0 a", IAE);
        settled.close(0, true);
        settled.line("module 0 a", IAE);
        settled.line("module 1 a", 1);
    }

    private static void fivePackages(Check c) {
        c.lines("module 0 a", "package p", "package f", "package g", "package h", "package i");
    }

    /** "PACKAGES (names, at most 6 in their order)". */
    private static void atMostSixPackages() {
        Stand.changed("the sixth package", TermsTest::fivePackages, c -> c.line("package q", 2));
        Stand.Deed six = c -> {
            fivePackages(c);
            c.line("package q", 2);
        };
        refused(six, "package n", ISE);
        refused(six, "package r", ISE);
        refused(six, "package p", IAE);
        refused(six, "package q", IAE);
        Check c = new Check();
        six.on(c);
        c.line("package n", ISE);
        c.line("exports n", IAE);
        c.lines("exports q", "opens q", "exports p", "module 0 b", "package n", "requires a");
        c.layer("b", 0, -1, false, 0);
        c.load("q", 0, 0, 0);
        c.load("p", 0, 0, 0);
        c.load("n", 0, 0, 1);
        c.load("n", 0, 1, Check.NSEE);
        c.peek("q", 0, 0, 0, 0, 1);
    }

    private static void granting(Check c, String... lines) {
        c.lines("module 0 a", "package p");
        c.lines(lines);
        c.lines("module 0 b", "requires a", "module 0 c", "requires a");
        c.layer("b c", 0, -1, false, 0);
        c.members(0, 1, 0, 2);
    }

    /** Whether b and c, the modules 0 and 2, see the package of a, which is module 1. */
    private static void seen(Check c, String word, boolean byB, boolean byC) {
        if (word.equals("exports")) {
            c.load("p", 0, 0, byB ? 0 : Check.NSEE);
            c.load("p", 0, 2, byC ? 0 : Check.NSEE);
            c.load("p", 0, 1, 0);
        } else {
            c.peek("p", 0, 0, 0, 0, byB ? 1 : 0);
            c.peek("p", 0, 2, 0, 0, byC ? 1 : 0);
            c.peek("p", 0, 1, 0, 0, 1);
        }
    }

    private static void seenAfter(String word, boolean byB, boolean byC, String... lines) {
        Check c = new Check();
        granting(c, lines);
        seen(c, word, byB, byC);
    }

    /** "each of them EXPORTED, and OPENED, not at all, to all, or to some names". */
    private static void grants(String word) {
        seenAfter(word, false, false);
        seenAfter(word, true, true, word + " p");
        seenAfter(word, true, false, word + " p to b");
        seenAfter(word, false, true, word + " p to c");
        seenAfter(word, true, true, word + " p to b", word + " p to c");
        seenAfter(word, false, false, word + " p to a");
        seenAfter(word, false, false, word + " p to bb", word + " p to cb");
    }

    /** "(at most 3 for each)": the third name is taken, a fourth has no room. */
    private static void atMostThreeNames(String word) {
        Stand.Deed two = c -> c.lines("module 0 a", "package p", word + " p to b", word + " p to c");
        Stand.changed("the third name", two, c -> c.line(word + " p to d", 2));
        Stand.Deed three = c -> {
            two.on(c);
            c.line(word + " p to d", 2);
        };
        refused(three, word + " p to e", ISE);
        refused(three, word + " p to a", ISE);
        refused(three, word + " p to bb", ISE);
        Check c = new Check();
        c.lines("module 0 a", "package p", word + " p to d", word + " p to e", word + " p to b");
        c.line(word + " p to c", ISE);
        c.lines("module 0 b", "requires a", "module 0 c", "requires a");
        c.layer("b c", 0, -1, false, 0);
        seen(c, word, true, false);
        Stand.changed("all instead of three", three, d -> d.line(word + " p", 2));
        seenAfter(word, true, true, word + " p to d", word + " p to e", word + " p to f", word + " p");
    }

    /** "(at most 3 for each)": for each package, and for exports and opens apart. */
    private static void threeNamesForEach() {
        Check c = new Check();
        c.lines("module 0 a", "package p", "package q");
        for (String name : new String[] {"b", "c", "d"}) {
            c.lines("exports p to " + name, "exports q to " + name, "opens p to " + name, "opens q to " + name);
        }
        for (String text : new String[] {"exports p to e", "exports q to e", "opens p to e", "opens q to e"}) {
            c.line(text, ISE);
        }
        c.lines("exports p");
        c.line("exports q to e", ISE);
        c.line("opens p to e", ISE);
        c.lines("exports p to e");
    }

    private static void fourRequires(Check c) {
        c.lines("module 0 a", "requires static e", "requires static f", "requires static g", "requires static h");
    }

    /** "REQUIRES (at most 5, in their order)", of whatever kinds. */
    private static void atMostFiveRequires() {
        Stand.changed("the fifth", TermsTest::fourRequires, c -> c.line("requires b", 2));
        for (String kind : new String[] {"", "static ", "transitive ", "transitive static "}) {
            Stand.Deed five = c -> {
                fourRequires(c);
                c.line("requires " + kind + "b", 2);
            };
            refused(five, "requires n", ISE);
            refused(five, "requires static n", ISE);
            refused(five, "requires transitive c", ISE);
            refused(five, "requires transitive static d", ISE);
            refused(five, "requires b", IAE);
            refused(five, "requires a", IAE);
        }
        Check c = new Check();
        c.lines("module 0 a", "requires f", "requires e", "requires d", "requires c", "requires b");
        c.line("requires g", ISE);
        for (char name = 'b'; name <= 'f'; name++) {
            c.lines("module 0 " + name);
        }
        c.layer("a", 0, -1, false, 0);
        c.members(0, 0, 5, 4, 3, 2, 1);
    }

    private static void required(String line, int wantRead, int wantCarried, int... members) {
        Check c = new Check();
        c.lines("module 0 a", line, "module 0 b", "module 0 c", "requires a");
        c.layer("c", 0, -1, false, 0);
        c.members(0, members);
        c.layer("b c", 0, -1, false, 1);
        c.reads(1, 2, 1, 1, wantRead == 1);
        c.reads(1, 1, 1, 1, wantCarried == 1);
        c.reads(1, 1, 1, 0, true);
    }

    /** "a name, perhaps TRANSITIVE, perhaps STATIC": each of the four kinds by what it does. */
    private static void kindsOfRequires() {
        required("requires b", 1, 0, 2, 0, 1);
        required("requires transitive b", 1, 1, 2, 0, 1);
        required("requires static b", 1, 0, 2, 0);
        required("requires transitive static b", 1, 1, 2, 0);
    }

    /** "USES and PROVIDES (service names, at most 3 each)". */
    private static void atMostThreeServices(String word, String other) {
        Stand.Deed two = c -> c.lines("module 0 a", word + " x", word + " s");
        Stand.changed("the third service", two, c -> c.line(word + " t", 2));
        Stand.Deed three = c -> {
            two.on(c);
            c.line(word + " t", 2);
        };
        refused(three, word + " u", ISE);
        refused(three, word + " n", ISE);
        refused(three, word + " t", IAE);
        refused(three, word + " x", IAE);
        Stand.Deed all = c -> {
            three.on(c);
            c.lines(other + " s", other + " t", other + " u");
        };
        refused(all, other + " n", ISE);
        refused(all, word + " n", ISE);
    }

    /** "LINES have at most 40 characters": a full one is a line, and what is not written is no part of it. */
    private static void atMostFortyCharacters() {
        String full = "module 0                            abcd";
        Check.due("characters", full.length(), 40);
        Check c = new Check();
        c.line(full, 1);
        Check one = new Check();
        one.write(full);
        Check.due("the 41st", one.write('e'), 0);
        Check.due("the 41st", one.write(' '), 0);
        Check.due("line", one.line(), 1);
        one.layer("abcd", 0, -1, false, 0);
        Check.due("another full one", one.line("module 1                             abc"), 1);
        Check cut = new Check();
        cut.write("module 0                               a");
        Check.due("the 41st", cut.write('b'), 0);
        Check.due("line", cut.line(), 1);
        cut.layer("a", 0, -1, false, 0);
        Check none = new Check();
        none.line("module 0                           abcde", IAE);
        none.line("a b c d e f g h i j k l m n o p q r s t ", IAE);
        none.line(" a b c d e f g h i j k l m n o p q r s t", IAE);
        none.line("modulemodulemodulemodulemodulemodulemodu", IAE);
        none.count(0, 0);
    }

    /** "words with one or more blanks between (also before and behind)". */
    private static void blanks() {
        for (String text : new String[] {"module 0 b", " module 0 b", "module 0 b ", "module  0 b", "module 0  b",
            "   module   0   b   ", "package q", " package q", "package q ", "package  q", "  exports  p  ",
            " opens   p   to    b ", " requires  transitive   static    b     ", " uses  s ", " provides  s "}) {
            taken(text);
        }
        for (String text : new String[] {"module0 b", "module 0b", "module0b", "packageq", "pack age q", "exportsp",
            "exports p tob", "exports pto b", "exports ptob", "requirestransitive b", "requires transitivestatic b",
            "requires staticb", "usess", "providess", "module,0,b", "package-q"}) {
            refused(TermsTest::described, text, IAE);
        }
    }

    /** "a new descriptor, the one that the next lines are about", also behind lines that are refused. */
    private static void theDescriptorOfTheNextLines() {
        Check c = new Check();
        c.lines("module 0 a", "package p", "module 0 b");
        c.line("exports p", IAE);
        c.line("module 2 c", IAE);
        c.line("", 0);
        c.lines("package q", "exports q", "module 1 a", "package r");
        c.layer("a b", 0, -1, false, 0);
        c.load("p", 0, 0, 0);
        c.load("q", 0, 0, Check.NSEE);
        c.load("q", 0, 1, 1);
        c.layer("a", 1, -1, false, 1);
        c.load("r", 1, 0, 18);
    }

    /** "package P (not so already)". */
    private static void packageNotSoAlready() {
        Stand.Deed before = c -> c.lines("module 0 a", "package p", "exports p", "opens p to b", "package q");
        refused(before, "package p", IAE);
        refused(before, "package q", IAE);
        Stand.changed("another package", before, c -> c.line("package n", 2));
        Check c = new Check();
        before.on(c);
        c.lines("module 0 b", "package p", "package q");
    }

    /** "P one of its packages": not one of another descriptor, and not one that comes later. */
    private static void oneOfItsPackages(String word) {
        Stand.Deed before = c -> c.lines("module 0 a", "package p", "module 0 b", "package q");
        for (String name : new String[] {"p", "n", "a", "b", "qq"}) {
            refused(before, word + " " + name, IAE);
            refused(before, word + " " + name + " to b", IAE);
        }
        Stand.changed("its own package", before, c -> c.line(word + " q to c", 2));
        Check c = new Check();
        before.on(c);
        c.line(word + " p", IAE);
        c.lines("package p", word + " p", word + " q to b");
    }

    /** "to all is for good": no name behind it takes it back, and none needs room. */
    private static void toAllIsForGood(String word) {
        seenAfter(word, true, true, word + " p", word + " p to b");
        seenAfter(word, true, true, word + " p to b", word + " p", word + " p to b");
        seenAfter(word, true, true, word + " p", word + " p to d", word + " p to e", word + " p to f",
                word + " p to g");
        Stand.Deed all = c -> c.lines("module 0 a", "package p", word + " p");
        Stand.unchanged("a name behind all", all, c -> c.line(word + " p to b", 2));
        Stand.unchanged("all again", all, c -> c.line(word + " p", 2));
        Stand.Deed full = c -> c.lines("module 0 a", "package p", word + " p to b", word + " p to c", word + " p to d",
                word + " p");
        Stand.unchanged("a fourth name behind all", full, c -> c.line(word + " p to e", 2));
    }

    /** "names are added": one behind the other, each stays. */
    private static void namesAreAdded(String word) {
        seenAfter(word, true, false, word + " p to b");
        seenAfter(word, true, true, word + " p to b", word + " p to c");
        seenAfter(word, true, true, word + " p to c", word + " p to d", word + " p to b");
    }

    /** "one that is there already changes nothing", and is a line also when there is no room. */
    private static void oneThatIsThereAlready(String word) {
        Stand.Deed one = c -> c.lines("module 0 a", "package p", word + " p to b");
        Stand.unchanged("the same name", one, c -> c.line(word + " p to b", 2));
        Stand.Deed three = c -> c.lines("module 0 a", "package p", word + " p to b", word + " p to c", word + " p to d");
        for (String name : new String[] {"b", "c", "d"}) {
            Stand.unchanged("the same name", three, c -> c.line(word + " p to " + name, 2));
        }
        Check c = new Check();
        c.lines("module 0 a", "package p", word + " p to b", word + " p to b", word + " p to b", word + " p to b",
                word + " p to c", word + " p to d");
        c.line(word + " p to e", ISE);
    }

    private static void exportedIsNotOpened() {
        Check c = new Check();
        granting(c, "exports p");
        seen(c, "opens", false, false);
        Check opened = new Check();
        granting(opened, "opens p");
        seen(opened, "exports", false, false);
    }

    /** The four forms of requires, and no other order of their words. */
    private static void formsOfRequires() {
        for (String words : new String[] {"", "static", "transitive", "transitive static", "static transitive",
            "static transitive b", "static static b", "transitive transitive b", "transitive static static b",
            "transitive transitive static b", "transitive b static", "b static", "b transitive", "b c", "static b c",
            "transitive b c", "transitive static b c", "Transitive b", "STATIC b", "transitiv b", "statics b"}) {
            refused(TermsTest::described, "requires " + words, IAE);
        }
    }

    /** "not its own name", of whatever kind; the name of the same in the other finder is the same. */
    private static void notItsOwnName() {
        Stand.Deed before = c -> c.lines("module 1 a", "module 0 a", "package p");
        for (String kind : new String[] {"", "static ", "transitive ", "transitive static "}) {
            refused(before, "requires " + kind + "a", IAE);
        }
        Stand.changed("a longer one", before, c -> c.line("requires aa", 2));
    }

    /** "nor one required already", of whatever kind; the first kind stands. */
    private static void notOneRequiredAlready() {
        String[] kinds = {"", "static ", "transitive ", "transitive static "};
        for (String first : kinds) {
            Stand.Deed before = c -> c.lines("module 0 a", "requires c", "requires " + first + "b");
            for (String kind : kinds) {
                refused(before, "requires " + kind + "b", IAE);
            }
        }
        Check c = new Check();
        c.lines("module 0 a", "requires b", "module 0 b", "requires c", "requires d", "module 0 c");
    }

    /** "uses S, provides S (not so already)"; what is used may be provided, too. */
    private static void servicesNotSoAlready(String word, String other) {
        Stand.Deed before = c -> c.lines("module 0 a", word + " s", word + " t");
        refused(before, word + " s", IAE);
        refused(before, word + " t", IAE);
        Stand.changed("the same the other way", before, c -> c.line(other + " s", 2));
        Check c = new Check();
        before.on(c);
        c.lines(other + " t", other + " s", "module 0 b", word + " s");
    }
}

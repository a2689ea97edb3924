/** Promises 1 to 3: a new object, write and line. */
public final class LineTest {
    private static final int IAE = Check.IAE;
    private static final int ISE = Check.ISE;

    public static void main(String[] args) {
        newObject();
        write();
        blanks();
        malformed();
        moduleLines();
        beforeAnyDescriptor();
        packageLines();
        grantLines("exports");
        grantLines("opens");
        requiresLines();
        serviceLines("uses");
        serviceLines("provides");
        namesThatAreWords();
        twelveDescriptors();
        settledDescriptor();
        Check.end();
    }

    private static void newObject() {
        Check c = new Check();
        c.counts(0, 0, 0);
        c.faultIs(0);
        c.modulesAre(0, -1);
        c.lineIsEmpty();
    }

    private static void write() {
        Check c = new Check();
        for (int code = 0; code < 32; code++) {
            Check.due("write " + code, c.write(code), 0);
        }
        for (int code : new int[] {127, 128, 255, 256 + 'a', 65535}) {
            Check.due("write " + code, c.write(code), 0);
        }
        c.lineIsEmpty();
        for (int code = 32; code <= 126; code++) {
            Check.due("write " + code, c.write(code), 1);
            if (code % 40 == 0) {
                c.line("", IAE);
            }
        }
        Check full = new Check();
        full.write("module 0 abcd                           ");
        Check.due("write beyond 40", full.write('e'), 0);
        Check.due("write beyond 40", full.write(' '), 0);
        full.line("", 1);
        full.write("package x");
        full.line("", 2);
    }

    private static void blanks() {
        Check c = new Check();
        c.line("", 0);
        c.line(" ", 0);
        c.line("                                        ", 0);
        c.line("  module   0  a ", 1);
        c.line(" package    p", 2);
        c.line("exports p   to   b  ", 2);
        c.counts(1, 0, 0);
    }

    private static void malformed() {
        for (String text : new String[] {
            "a", "modul 0 b", "modules 0 b", "Module 0 b", "module", "module 0", "module b", "module 0 b c",
            "module 2 b", "module 00 b", "module 01 b", "module -1 b", "module 0 abcde", "module 0 B", "module 0 b1",
            "module 0 b.", "module0 b", "module a 0", "package", "package abcde", "package q r", "package Q",
            "package q;", "package `", "package {", "exports", "exports p to", "exports p b", "exports p to b c",
            "exports p at b", "exports p to B", "exports p to abcde", "exports P", "opens", "opens p to",
            "opens p b", "opens p to b c", "opens p To b", "requires", "requires static", "requires transitive",
            "requires transitive static", "requires static transitive b", "requires static static b",
            "requires transitive transitive b", "requires b c", "requires transitive b c",
            "requires transitive static b c", "requires Static b", "requires abcde", "uses", "uses s t", "uses S",
            "uses abcde", "provides", "provides s t", "provides 1", "provides abcde", "close", "0", "to",
            "a b c d e f g h i j k l m n o p q r s t"}) {
            Check c = new Check();
            c.lines("module 0 a", "package p");
            c.line(text, IAE);
            c.lineIsEmpty();
            c.counts(1, 0, 0);
        }
    }

    private static void moduleLines() {
        Check c = new Check();
        c.line("module 0 a", 1);
        c.line("module 0 a", IAE);
        c.line("module 1 a", 1);
        c.line("module 1 a", IAE);
        c.line("module 0 aa", 1);
        c.line("module 0 zzzz", 1);
        c.line("module 0 zzz", 1);
        c.line("module 0 zzzz", IAE);
        c.counts(5, 0, 0);
    }

    private static void beforeAnyDescriptor() {
        Check c = new Check();
        for (String text : new String[] {"package p", "exports p", "exports p to a", "opens p", "opens p to a",
            "requires a", "requires transitive a", "requires static a", "requires transitive static a", "uses s",
            "provides s"}) {
            c.line(text, ISE);
            c.lineIsEmpty();
        }
        c.line("package", IAE);
        c.line("exports p to", IAE);
        c.line("requires transitive", IAE);
        c.counts(0, 0, 0);
    }

    private static void packageLines() {
        Check c = new Check();
        c.lines("module 0 a", "package p", "package q");
        c.line("package p", IAE);
        c.lines("package r", "package s", "package t", "package u");
        c.line("package v", ISE);
        c.line("package u", IAE);
        c.lines("module 0 b", "package p");
    }

    private static void grantLines(String word) {
        Check c = new Check();
        c.lines("module 0 a", "package p", "package q");
        c.line(word + " r", IAE);
        c.line(word + " r to b", IAE);
        c.lines(word + " p to b", word + " p to b", word + " p to c", word + " p to a");
        c.line(word + " p to e", ISE);
        c.lines(word + " p to b", word + " p to c", word + " p to a");
        c.lines(word + " q to e", word + " q to f", word + " q to g");
        c.line(word + " q to h", ISE);
        c.lines(word + " p", word + " p", word + " p to b");
        c.lines("module 0 b");
        c.line(word + " p", IAE);
    }

    private static void requiresLines() {
        Check c = new Check();
        c.lines("module 0 a");
        c.line("requires a", IAE);
        c.line("requires static a", IAE);
        c.line("requires transitive a", IAE);
        c.line("requires transitive static a", IAE);
        c.lines("requires b");
        c.line("requires b", IAE);
        c.line("requires static b", IAE);
        c.line("requires transitive b", IAE);
        c.lines("requires transitive c", "requires static d", "requires transitive static e", "requires f");
        c.line("requires g", ISE);
        c.line("requires static g", ISE);
        c.line("requires transitive c", IAE);
        c.line("requires a", IAE);
    }

    private static void serviceLines(String word) {
        Check c = new Check();
        c.lines("module 0 a", word + " s", word + " t");
        c.line(word + " s", IAE);
        c.lines(word + " u");
        c.line(word + " v", ISE);
        c.line(word + " u", IAE);
        String other = word.equals("uses") ? "provides" : "uses";
        c.lines(other + " s", other + " t", other + " u");
        c.line(other + " v", ISE);
    }

    private static void namesThatAreWords() {
        Check c = new Check();
        c.lines("module 0 to", "package to", "exports to", "exports to to to", "opens to to uses", "uses uses");
        c.line("exports to to", IAE);
        c.line("requires to", IAE);
    }

    private static void twelveDescriptors() {
        Check c = new Check();
        for (char n = 'a'; n < 'a' + 12; n++) {
            c.line("module " + (n % 2) + " " + n, 1);
        }
        c.line("module 0 z", ISE);
        c.line("module 1 z", ISE);
        c.line("module 1 a", IAE);
        c.line("package p", 2);
        c.counts(12, 0, 0);
    }

    private static void settledDescriptor() {
        Check c = new Check();
        c.lines("module 0 b", "package p", "module 0 a", "package p", "requires b");
        c.layer("c", 0, -1, false, Check.NSEE);
        c.lines("uses s");
        c.layer("b", 0, -1, false, 0);
        c.lines("uses t");
        c.layer("a", 0, -1, false, 1);
        String[] texts = {"package q", "exports p", "exports p to c", "opens p", "opens p to c", "requires c", "uses u",
            "provides s"};
        for (String text : texts) {
            c.line(text, ISE);
            c.lineIsEmpty();
        }
        c.line("package p", IAE);
        c.line("exports q", IAE);
        c.line("requires b", IAE);
        c.line("uses s", IAE);
        c.line("", 0);
        c.close(1, true);
        for (String text : texts) {
            c.line(text, ISE);
        }
        c.lines("module 0 c", "package p", "exports p");
    }
}

/** Promise 13: provider. */
public final class ProviderTest {
    public static void main(String[] args) {
        inOrder();
        wrongCalls();
        Check.end();
    }

    private static void inOrder() {
        Check c = new Check();
        c.lines("module 0 a", "provides s", "uses t", "module 0 b", "requires a", "provides t", "provides s",
                "module 1 c", "provides s", "module 1 d", "provides t", "module 1 e", "provides u", "provides s");
        c.layer("b", 0, -1, false, 0);
        c.layer("e d c", 1, 0, false, 1);
        c.provider("s", 1, 0, 16 + 4);
        c.lineIsEmpty();
        c.provider("s", 1, 1, 16 + 2);
        c.provider("s", 1, 2, 1);
        c.provider(" s ", 1, 3, 0);
        c.provider("s", 1, 4, -1);
        c.lineIsEmpty();
        c.provider("t", 1, 0, 16 + 3);
        c.provider("t", 1, 1, 1);
        c.provider("t", 1, 2, -1);
        c.provider("s", 0, 0, 1);
        c.provider("s", 0, 1, 0);
        c.provider("s", 0, 2, -1);
        c.provider("u", 0, 0, -1);
        c.provider("zzzz", 1, 0, -1);
        c.layer("a", 0, 1, false, 2);
        c.provider("s", 2, 0, 32);
        c.provider("s", 2, 4, 0);
        c.provider("s", 2, 5, -1);
    }

    private static void wrongCalls() {
        Check c = new Check();
        c.lines("module 0 a", "provides s");
        c.provider("s", 0, 0, Check.IAE);
        c.lineIsEmpty();
        c.layer("a", 0, -1, false, 0);
        for (String text : new String[] {"", "  ", "s s", "S", "sssss", "s1"}) {
            c.provider(text, 0, 0, Check.IAE);
            c.lineIsEmpty();
        }
        for (int n : new int[] {-1, 1, 5, Integer.MAX_VALUE, Integer.MIN_VALUE}) {
            c.provider("s", n, 0, Check.IAE);
            c.provider("s", 0, n, -1);
            c.lineIsEmpty();
        }
        c.close(0, true);
        c.provider("s", 0, 0, Check.IAE);
        c.lineIsEmpty();
    }
}

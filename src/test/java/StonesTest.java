/** Promises 20 to 22: what was heard, and who sucked a stone. */
public final class StonesTest {
    public static void main(String[] args) {
        hears();
        stones();
        forget();
        heardOfTheDead();
        Checks.end("StonesTest");
    }

    private static void hears() {
        WellKnots x = Checks.told("w0;w0;s0 1 5 0 0;c0 0 3;");
        Checks.due("c -1", x.hears(-1, 0, 0, 0), -1);
        Checks.due("c 1", x.hears(1, 0, 0, 0), -1);
        Checks.due("s -1", x.hears(0, -1, 0, 0), -1);
        Checks.due("s 1", x.hears(0, 1, 0, 0), -1);
        Checks.due("d -1", x.hears(0, 0, -1, 0), -1);
        Checks.due("d 10", x.hears(0, 0, 10, 0), -1);
        Checks.due("r -1", x.hears(0, 0, 0, -1), -1);
        Checks.due("r 10", x.hears(0, 0, 0, 10), -1);
        Checks.due("none HEARD", x.count(3), 0);
        for (int n = 1; n <= 6; n++) {
            Checks.due("HEARD " + n, x.hears(0, 0, 9, 9), n);
        }
        Checks.due("FULL", x.hears(0, 0, 0, 0), -3);
        Checks.due("BAD ahead of FULL", x.hears(0, 0, 0, 10), -1);
        Checks.due("HEARD", x.count(3), 6);
    }

    private static void stones() {
        for (int r = 0; r <= 9; r++) {
            WellKnots x = Checks.told("w0;w0;s0 1 1 0 0;s0 1 8 0 0;c0 0 3;c0 0 3;c0 0 3;");
            x.hears(2, 1, 2, r);
            int stones = 8 - 2 - r;
            Checks.due("SUCKED by " + stones, x.stones(0), stones >= 1 && stones <= 3 ? 4 : 0);
            Checks.due("LIARS by " + stones, x.stones(1), stones < 0 || stones > 3 ? 4 : 0);
        }
        WellKnots y = Checks.told("w0;w0;s0 1 5 0 0;c0 0 3;c0 0 3;c0 0 3;c0 0 3;");
        y.hears(0, 0, 5, 0);
        y.hears(1, 0, 3, 0);
        y.hears(1, 0, 9, 9);
        y.hears(3, 0, 0, 2);
        y.hears(3, 0, 0, 5);
        y.hears(2, 0, 0, 1);
        Checks.due("SUCKED", y.stones(0), 10);
        Checks.due("LIARS", y.stones(1), 6);
        Checks.due("stones(-1)", y.stones(-1), -1);
        Checks.due("stones(2)", y.stones(2), -1);
    }

    private static void forget() {
        WellKnots x = Checks.told("w0;w0;s0 1 5 0 0;c0 0 3;c0 0 3;");
        x.hears(0, 0, 3, 0);
        x.hears(1, 0, 0, 0);
        Checks.due("forget", x.forget(), 2);
        Checks.due("SUCKED", x.stones(0), 0);
        Checks.due("LIARS", x.stones(1), 0);
        Checks.due("forget again", x.forget(), 0);
        Checks.due("hears anew", x.hears(1, 0, 4, 0), 1);
        Checks.due("SUCKED anew", x.stones(0), 2);
        x.hears(0, 0, 0, 0);
        x.forget();
        x.hears(1, 0, 5, 0);
        Checks.due("SUCKED: nothing forgotten", x.stones(0), 0);
        Checks.due("LIARS: nothing forgotten", x.stones(1), 0);
    }

    private static void heardOfTheDead() {
        WellKnots x = Checks.told("w0;w0;s0 1 9 0 0;c0 0 3;");
        x.keep(0);
        x.goes(0, 0, 0);
        Checks.due("HEARD of a dead one", x.hears(0, 0, 7, 0), 1);
        x.undo();
        Checks.due("not UNDONE", x.stones(0), 1);
        x.back(0);
        Checks.due("not of an image", x.stones(0), 1);
        Checks.due("nothing changed but that", x.count(4), 0);
    }
}

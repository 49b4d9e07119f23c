/** Promises 23 to 25 and 27: marks by kinds, their trace, and images. */
public final class KindsTest {
    private static final int NO = -1000000;

    public static void main(String[] args) {
        marks();
        marksRefused();
        marksFollowNow();
        images();
        imagesKeepWhatMayBeUndone();
        imagesKeepAllOfNow();
        Checks.end("KindsTest");
    }

    private static void marks() {
        WellKnots x = Checks.told("w0;w0;w0;s0 1 9 0 2;s0 1 1 0 2;s0 1 1 0 1;c0 0 8;c1 0 20;"
            + "k0 0 13;k1 2 7;k1 1 3;d2 0 9;d2 1 11;d0 1 2;");
        x.goes(0, 0, 0);
        int[][] due = {{0, 0, -2, 0, -2, 13}, {3, 4, 3, 8, 4, 16}, {7, 9, -13, 18, -11, 20}};
        int[] trace = {1, 11, 101, 1011, 10101, 100001};
        long sum = 0;
        for (int w = 0; w < 3; w++) {
            for (int kind = 0; kind < 6; kind++) {
                Checks.due("mark(" + kind + ", " + w + ")", x.mark(kind, w), due[w][kind]);
                sum += trace[kind];
                Checks.due("trace behind kind " + kind, x.trace(), sum);
            }
        }
        x.well(0, 1);
        x.undo();
        x.road();
        Checks.due("other calls leave THE TRACE", x.trace(), sum);
    }

    private static void marksRefused() {
        WellKnots x = Checks.told("w0;w0;");
        Checks.due("kind -1", x.mark(-1, 0), NO);
        Checks.due("kind 6", x.mark(6, 0), NO);
        Checks.due("w -1", x.mark(0, -1), NO);
        Checks.due("w 2", x.mark(0, 2), NO);
        Checks.due("trace", x.trace(), 0);
        Checks.due("no marks", x.mark(1, 1), 0);
        Checks.due("trace", x.trace(), 11);
    }

    private static void marksFollowNow() {
        WellKnots x = Checks.told("w0;w0;c1 0 20;d1 0 4;d0 1 9;");
        x.fills(0, 5);
        Checks.due("KNOT", x.mark(1, 1), 5);
        x.strikes();
        Checks.due("DEW", x.mark(2, 1), 5);
        Checks.due("DEW of another", x.mark(2, 0), -5);
        Checks.due("CAMEL", x.mark(4, 1), 6);
    }

    private static void images() {
        WellKnots x = Checks.told("w0;w0;s0 1 9 0 0;c0 0 8;k0 0 44;");
        Checks.due("keep(-1)", x.keep(-1), -1);
        Checks.due("keep(2)", x.keep(2), -1);
        Checks.due("back(-1)", x.back(-1), -1);
        Checks.due("back(2)", x.back(2), -1);
        Checks.due("none kept", x.back(0), -2);
        Checks.due("keep(0)", x.keep(0), 0);
        Checks.due("none kept there", x.back(1), -2);
        x.goes(0, 0, 0);
        Checks.due("keep(1)", x.keep(1), 44);
        Checks.due("back(0)", x.back(0), 0);
        Checks.due("it lives", x.now(1), 1);
        Checks.due("back(1)", x.back(1), 44);
        Checks.due("it is dead", x.now(1), 0);
        Checks.due("back(0) again", x.back(0), 0);
        Checks.due("kept anew", x.keep(1), 0);
        Checks.due("back(1)", x.back(1), 0);
        Checks.due("it lives", x.caravan(0, 4), 1);
    }

    private static void imagesKeepWhatMayBeUndone() {
        WellKnots x = Checks.told("w0;c0 0 8;");
        x.fills(0, 1);
        x.fills(0, 2);
        x.keep(0);
        x.undo();
        x.undo();
        Checks.due("none", x.count(4), 0);
        x.back(0);
        Checks.due("two", x.count(4), 2);
        Checks.due("undo", x.undo(), 1);
        Checks.due("CUPS", x.caravan(0, 1), 1);
        Checks.due("undo", x.undo(), 0);
        Checks.due("CUPS", x.caravan(0, 1), 0);
        for (int n = 0; n < 12; n++) {
            x.fills(0, 1);
        }
        x.back(0);
        Checks.due("the image is as it was", x.caravan(0, 1), 3);
        Checks.due("back is no deed", x.undo(), 1);
        Checks.due("CUPS", x.caravan(0, 1), 1);
    }

    private static void imagesKeepAllOfNow() {
        WellKnots x = Checks.told("w0;w0;s0 1 5 0 0;c0 9 20;c1 0 20;k0 0 9;k1 0 9;d0 1 5;d1 0 5;");
        x.hears(0, 0, 0, 0);
        x.keep(1);
        x.goes(0, 0, 2);
        x.drinks(0, 1);
        x.fills(0, 1);
        x.hands(1, 0, 0, 3);
        x.strikes();
        x.hears(0, 0, 0, 0);
        x.mark(0, 0);
        Checks.type(x, "w0");
        Checks.due("back", x.back(1), 0);
        Checks.due("AT", x.caravan(0, 0), 0);
        Checks.due("CUPS", x.caravan(0, 1), 9);
        Checks.due("DRY", x.caravan(0, 3), 0);
        Checks.due("KNOTS", x.knots(0, 0), 9);
        Checks.due("KNOTS elsewhere", x.knots(0, 1), 0);
        Checks.due("KNOTS of the other", x.knots(1, 0), 9);
        Checks.due("DUES", x.now(3), 10);
        Checks.due("UNDONE", x.count(4), 0);
        Checks.due("nothing else: HEARD", x.count(3), 2);
        Checks.due("nothing else: THE TEXT", x.count(5), 2);
        Checks.due("nothing else: THE TRACE", x.trace(), 1);
    }
}

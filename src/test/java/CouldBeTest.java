/** Promises 17 to 19: what could be. */
public final class CouldBeTest {
    public static void main(String[] args) {
        passRefused();
        passByCups();
        passOfFewest();
        passByFirstStage();
        passChangesNothing();
        ring();
        ringOfSeveral();
        ringRefused();
        safe();
        safeRefused();
        Checks.end("CouldBeTest");
    }

    private static void passDue(WellKnots x, int c, int w, int stages, int first, int cups) {
        Checks.due("pass(" + c + ", " + w + ", 0)", x.pass(c, w, 0), stages);
        Checks.due("pass(" + c + ", " + w + ", 1)", x.pass(c, w, 1), first);
        Checks.due("pass(" + c + ", " + w + ", 2)", x.pass(c, w, 2), cups);
    }

    private static void passRefused() {
        WellKnots x = Checks.told("w0;w0;s0 1 3 0 0;c0 0 3;");
        Checks.due("c -1", x.pass(-1, 0, 0), -1);
        Checks.due("c 1", x.pass(1, 0, 0), -1);
        Checks.due("w -1", x.pass(0, -1, 0), -1);
        Checks.due("w 2", x.pass(0, 2, 0), -1);
        Checks.due("what -1", x.pass(0, 0, -1), -1);
        Checks.due("what 3", x.pass(0, 0, 3), -1);
    }

    private static void passByCups() {
        passDue(Checks.told("w0;w0;s0 1 3 0 0;c0 0 3;"), 0, 0, 0, -9, -9);
        passDue(Checks.told("w0;w0;s0 1 3 0 0;c0 0 3;"), 0, 1, 1, 0, 0);
        passDue(Checks.told("w0;w0;s0 1 3 0 0;c0 0 2;"), 0, 1, -9, -9, -9);
        passDue(Checks.told("w0;w0;s0 1 3 0 0;c0 1 2;"), 0, 1, 1, 0, 1);
        passDue(Checks.told("w0;w0;s0 1 9 0 0;c0 20 1;"), 0, 1, 1, 0, 8);
        passDue(Checks.told("w0;w0;s0 1 9 0 0;c1 7 1;"), 0, 0, -9, -9, -9);
        passDue(Checks.told("w0;w0;w0;s0 1 9 0 0;c0 20 20;"), 0, 2, -9, -9, -9);
        WellKnots row = Checks.told("w0;w0;w0;s0 1 5 0 0;s1 2 5 0 0;c0 4 6;c0 3 6;c0 7 3;");
        passDue(row, 0, 2, 2, 0, 0);
        passDue(row, 1, 2, -9, -9, -9);
        passDue(row, 2, 2, 2, 0, 2);
    }

    private static void passOfFewest() {
        String text = "w0;w0;w0;w0;s0 3 9 0 0;s0 1 1 0 0;s1 3 5 0 0;s1 2 1 0 0;s2 3 1 0 0;";
        passDue(Checks.told(text + "c0 0 9;"), 0, 3, 1, 0, 0);
        passDue(Checks.told(text + "c0 0 8;"), 0, 3, 2, 1, 0);
        passDue(Checks.told(text + "c0 0 6;"), 0, 3, 2, 1, 0);
        passDue(Checks.told(text + "c0 0 5;"), 0, 3, 3, 1, 0);
        passDue(Checks.told(text + "c0 0 3;"), 0, 3, 3, 1, 0);
        passDue(Checks.told(text + "c0 0 2;"), 0, 3, -9, -9, -9);
        passDue(Checks.told(text + "c0 1 2;"), 0, 3, 3, 1, 0);
        String line = "w0;w0;w0;w0;w0;w0;s4 5 8 0 0;s3 4 8 0 0;s2 3 8 0 0;s1 2 8 0 0;s0 1 8 0 0;";
        passDue(Checks.told(line + "c0 20 20;"), 0, 5, 5, 4, 0);
        passDue(Checks.told(line + "c0 20 19;"), 0, 5, -9, -9, -9);
    }

    private static void passByFirstStage() {
        WellKnots x = Checks.told("w0;w0;s0 1 9 0 0;s1 0 2 0 0;s0 1 1 0 0;c0 4 1;c1 20 1;");
        passDue(x, 0, 1, 1, 1, 1);
        passDue(x, 1, 0, 1, 0, 8);
        WellKnots y = Checks.told("w0;w0;w0;w0;s0 1 5 0 0;s0 2 2 0 0;s1 3 5 0 0;s2 3 2 0 0;c0 0 9;c0 0 10;c0 8 2;");
        passDue(y, 0, 3, 2, 1, 0);
        passDue(y, 1, 3, 2, 0, 0);
        passDue(y, 2, 3, 2, 0, 3);
    }

    private static void passChangesNothing() {
        WellKnots x = Checks.told("w0;w0;s0 1 3 0 0;c0 5 4;");
        x.goes(0, 0, 1);
        passDue(x, 0, 0, 1, 0, 1);
        passDue(x, 0, 0, 1, 0, 1);
        Checks.due("AT", x.caravan(0, 0), 1);
        Checks.due("CUPS", x.caravan(0, 1), 4);
        Checks.due("DRY", x.caravan(0, 3), 2);
        Checks.due("UNDONE", x.count(4), 1);
    }

    private static void ringDue(String dues, int strike, int... wells) {
        WellKnots x = Checks.told("w0;w0;w0;w0;w0;w0;" + dues);
        Checks.due("STRIKE of " + dues, x.ring(-2), strike);
        Checks.due("WELLS of " + dues, x.ring(-1), wells.length);
        for (int i = 0; i < 6; i++) {
            Checks.due("ring(" + i + ") of " + dues, x.ring(i), i < wells.length ? wells[i] : -9);
        }
    }

    private static void ring() {
        ringDue("d0 1 5;d1 0 3;", 3, 0, 1);
        ringDue("d5 4 5;d4 5 3;", 3, 4, 5);
        ringDue("d1 2 1;d2 1 1;", 1, 1, 2);
        ringDue("d2 1 5;d1 3 4;d3 2 9;", 4, 1, 3, 2);
        ringDue("d0 5 60;d5 1 60;d1 4 60;d4 2 60;d2 3 60;d3 0 60;", 60, 0, 5, 1, 4, 2, 3);
        ringDue("d0 1 5;d1 2 5;d2 0 5;d1 0 8;d0 2 1;", 5, 0, 1, 2);
        ringDue("d0 1 9;d1 2 5;d2 0 5;d1 0 8;d0 2 1;", 8, 0, 1);
    }

    private static void ringOfSeveral() {
        ringDue("d0 1 6;d1 0 6;d2 3 4;d3 4 4;d4 2 4;", 6, 0, 1);
        ringDue("d0 1 4;d1 2 4;d2 0 4;d3 4 6;d4 3 6;", 6, 3, 4);
        ringDue("d0 2 6;d2 0 6;d0 1 6;d1 0 6;", 6, 0, 1);
        ringDue("d0 2 5;d2 1 5;d1 0 5;d0 1 5;d1 2 5;d2 0 5;", 5, 0, 1, 2);
        ringDue("d1 2 3;d2 1 3;d0 5 3;d5 0 3;", 3, 0, 5);
        ringDue("d0 1 2;d1 2 2;d2 3 2;d3 0 2;d0 2 2;d1 3 2;", 2, 0, 1, 2, 3);
        ringDue("d0 2 2;d2 1 2;d1 3 2;d3 0 2;d3 2 2;d2 3 1;", 2, 0, 2, 1, 3);
    }

    private static void ringRefused() {
        WellKnots x = Checks.told("w0;w0;w0;d0 1 5;d1 2 5;");
        for (int i = -2; i <= 5; i++) {
            Checks.due("no ring: ring(" + i + ")", x.ring(i), -9);
        }
        Checks.due("ring(-3)", x.ring(-3), -1);
        Checks.due("ring(6)", x.ring(6), -1);
    }

    private static void safeDue(WellKnots x, int[] asked, int upper, int lower) {
        String call = "safe(0, " + asked[0] + ", " + asked[1] + ", " + asked[2] + ", " + asked[3] + ", ";
        Checks.due(call + "0)", x.safe(0, asked[0], asked[1], asked[2], asked[3], 0), upper);
        Checks.due(call + "1)", x.safe(0, asked[0], asked[1], asked[2], asked[3], 1), lower);
    }

    private static void safe() {
        WellKnots x = Checks.told("w0;w0;s0 1 2 0 0;c0 20 10;");
        safeDue(x, new int[] {9, 9, 0, 10}, 1, 1);
        safeDue(x, new int[] {5, 0, 2, 10}, 1, 1);
        safeDue(x, new int[] {5, 1, 2, 10}, 0, 1);
        safeDue(x, new int[] {5, 1, 2, 0}, 1, 1);
        safeDue(x, new int[] {5, 1, 2, 5}, 1, 4);
        safeDue(x, new int[] {5, 1, 2, 3}, 49, 100);
        safeDue(x, new int[] {9, 2, 1, 2}, 4, 5);
        safeDue(x, new int[] {9, 1, 1, 2}, 1, 1);
        safeDue(x, new int[] {4, 1, 2, 2}, 1, 1);
        safeDue(x, new int[] {4, 2, 2, 4}, 21, 25);
        safeDue(x, new int[] {1, 1, 6, 1}, 199989, 200000);
        safeDue(x, new int[] {0, 9, 6, 1}, 177147, 200000);
        safeDue(x, new int[] {6, 0, 2, 5}, 0, 1);
        x.goes(0, 0, 0);
        safeDue(x, new int[] {4, 1, 2, 1}, 81, 100);
        safeDue(x, new int[] {8, 1, 1, 5}, 1, 2);
        Checks.due("nothing is changed", x.caravan(0, 3), 2);
    }

    private static void safeRefused() {
        WellKnots x = Checks.told("w0;c0 0 10;");
        Checks.due("c -1", x.safe(-1, 0, 0, 0, 0, 0), -1);
        Checks.due("c 1", x.safe(1, 0, 0, 0, 0, 0), -1);
        Checks.due("h -1", x.safe(0, -1, 0, 0, 0, 0), -1);
        Checks.due("h 10", x.safe(0, 10, 0, 0, 0, 0), -1);
        Checks.due("more -1", x.safe(0, 0, -1, 0, 0, 0), -1);
        Checks.due("more 10", x.safe(0, 0, 10, 0, 0, 0), -1);
        Checks.due("n -1", x.safe(0, 0, 0, -1, 0, 0), -1);
        Checks.due("n 7", x.safe(0, 0, 0, 7, 0, 0), -1);
        Checks.due("x -1", x.safe(0, 0, 0, 0, -1, 0), -1);
        Checks.due("x 11", x.safe(0, 0, 0, 0, 11, 0), -1);
        Checks.due("what -1", x.safe(0, 0, 0, 0, 0, -1), -1);
        Checks.due("what 2", x.safe(0, 0, 0, 0, 0, 2), -1);
        Checks.due("n 6", x.safe(0, 9, 9, 6, 10, 0), 0);
        Checks.due("lower of none", x.safe(0, 9, 9, 6, 10, 1), 1);
    }
}

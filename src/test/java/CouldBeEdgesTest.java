import java.util.function.Supplier;

/** Boundary cases of promises 17 to 19: a test for each sentence that names one. */
public final class CouldBeEdgesTest {
    private static final int STATE = -2, BAD = -1, NONE = -9;
    private static final String TWO = "w0;w1;";
    private static final String SIX = "w0;w0;w0;w0;w0;w0;";

    public static void main(String[] args) {
        passOrNone();
        passAlive();
        passOfSeveral();
        ringOrNone();
        ringOfSeveral();
        safeFraction();
        safeOrNot();
        nothingIsChanged();
        Checks.end("CouldBeEdgesTest");
    }

    private static void passOrNone() {
        Checks.edge("17: how many (0: it is there), NONE for the other two", () -> {
            pass("w0;c0 0 1;", 0, 0, NONE, NONE);
            pass(TWO + "s0 1 1 0 0;c1 9 9;", 1, 0, NONE, NONE);
            pass(SIX + "s0 5 9 0 0;c5 20 20;", 5, 0, NONE, NONE);
        });
        Checks.edge("17: NONE (never): no row of STAGES leads there", () -> {
            pass(TWO + "c0 20 20;", 1, NONE, NONE, NONE);
            pass("w0;w0;w0;s0 1 1 0 2;c0 20 20;", 2, NONE, NONE, NONE);
            pass("w0;w0;w0;w0;s0 1 1 0 0;s2 3 1 0 0;c0 20 20;", 3, NONE, NONE, NONE);
        });
        Checks.edge("17: NONE (never): it would come there dead", () -> {
            pass(TWO + "s0 1 2 0 0;c0 0 1;", 1, NONE, NONE, NONE);
            pass(TWO + "s0 1 9 0 0;c0 7 1;", 1, NONE, NONE, NONE);
            pass("w0;w0;w0;s0 1 5 0 0;s1 2 5 0 0;c0 3 6;", 2, NONE, NONE, NONE);
        });
        Checks.edge("17: STATE: it is dead", () -> {
            for (int what = 0; what < 3; what++) {
                int asked = what;
                Twins.refused("pass(2, 0, " + what + ")", Twins::rich, x -> x.pass(2, 0, asked), STATE);
                Twins.refused("pass(2, 2, " + what + ")", Twins::rich, x -> x.pass(2, 2, asked), STATE);
            }
        });
        Checks.edge("17: BAD comes ahead of STATE", () -> {
            Twins.refused("pass(2, 0, 3)", Twins::rich, x -> x.pass(2, 0, 3), BAD);
            Twins.refused("pass(2, 3, 0)", Twins::rich, x -> x.pass(2, 3, 0), BAD);
        });
    }

    private static void passAlive() {
        Checks.edge("17: alive: by just what it BEARS", () -> {
            pass(TWO + "s0 1 9 0 0;c0 0 9;", 1, 1, 0, 0);
            pass("w0;w0;w0;s0 1 9 0 0;s1 2 9 0 0;c0 0 18;", 2, 2, 0, 0);
            pass("w0;w0;w0;s0 1 9 0 0;s1 2 9 0 0;c0 0 17;", 2, NONE, NONE, NONE);
        });
        Checks.edge("17: alive: by just the CUPS that it has", () -> {
            pass(TWO + "s0 1 9 0 0;c0 8 1;", 1, 1, 0, 8);
            pass("w0;w0;w0;s0 1 5 0 0;s1 2 5 0 0;c0 4 6;", 2, 2, 0, 0);
            pass("w0;w0;w0;s0 1 9 0 0;s1 2 9 0 0;c0 17 1;", 2, 2, 0, 8);
            pass("w0;w0;w0;s0 1 9 0 0;s1 2 9 0 0;c0 16 1;", 2, NONE, NONE, NONE);
        });
        Checks.edge("17: alive: DRY by all that it BEARS", () -> {
            Supplier<WellKnots> made = () -> {
                WellKnots x = Checks.told(TWO + "w0;s0 1 9 0 0;s1 2 9 0 0;c0 9 9;");
                x.goes(0, 0, 0);
                return x;
            };
            pass("DRY 9 of 9", made, 2, new int[] {1, 1, 9});
            pass("DRY 9 of 9", made, 0, new int[] {1, 0, 9});
            pass("DRY 9 of 9, and one cup less", () -> {
                WellKnots x = Checks.told(TWO + "w0;s0 1 9 0 0;s1 2 9 0 0;c0 8 9;");
                x.goes(0, 0, 0);
                return x;
            }, 2, new int[] {NONE, NONE, NONE});
        });
        Checks.edge("17: by CUPS that it has (never DRUNK, FILLED)", () -> {
            String road = "w0;w0;w0;w0;s0 1 9 0 0;s1 2 9 0 0;s2 3 9 0 0;";
            pass(road + "c0 6 20;", 3, NONE, NONE, NONE);
            pass(road + "c0 7 20;", 3, 3, 0, 0);
        });
        Checks.edge("17: no more CUPS on a STAGE than its HEAT", () -> {
            pass("w0;w0;w0;s0 1 1 0 0;s1 2 9 0 0;c0 20 1;", 2, 2, 0, 0);
            pass(TWO + "s0 1 1 0 0;c0 20 20;", 1, 1, 0, 0);
        });
        Checks.edge("17: the most STAGES there may be", () -> {
            String line = SIX + "s4 5 8 0 0;s3 4 8 0 0;s2 3 8 0 0;s1 2 8 0 0;s0 1 8 0 0;";
            pass(line + "c0 20 20;", 5, 5, 4, 0);
            pass(line + "c0 20 19;", 5, NONE, NONE, NONE);
            pass(line + "c0 19 20;", 5, NONE, NONE, NONE);
        });
    }

    private static void passOfSeveral() {
        Checks.edge("17: the fewest STAGES, whatever their HEAT", () -> {
            String road = "w0;w0;w0;s0 2 9 0 0;s0 1 1 0 0;s1 2 1 0 0;";
            pass(road + "c0 0 9;", 2, 1, 0, 0);
            pass(road + "c0 8 1;", 2, 1, 0, 8);
            pass(road + "c0 0 8;", 2, 2, 1, 0);
        });
        Checks.edge("17: by such rows the lowest first STAGE", () -> {
            pass(TWO + "s0 1 9 0 0;s1 0 1 0 0;s0 1 5 0 0;c0 0 20;", 1, 1, 0, 0);
            pass(TWO + "s0 1 9 0 0;s1 0 1 0 0;s0 1 5 0 0;c0 0 5;", 1, 1, 1, 0);
            String road = "w0;w0;w0;w0;s0 1 5 0 0;s0 2 2 0 0;s1 3 5 0 0;s2 3 2 0 0;";
            pass(road + "c0 0 10;", 3, 2, 0, 0);
            pass(road + "c0 0 9;", 3, 2, 1, 0);
            pass("w0;w0;w0;s1 2 1 0 0;s0 1 1 0 0;c0 0 20;", 2, 2, 1, 0);
        });
        Checks.edge("17: the fewest CUPS on that one", () -> {
            pass(TWO + "s0 1 9 0 0;c0 20 10;", 1, 1, 0, 0);
            pass(TWO + "s0 1 9 0 0;c0 20 9;", 1, 1, 0, 0);
            pass(TWO + "s0 1 9 0 0;c0 20 8;", 1, 1, 0, 1);
            pass(TWO + "s0 1 9 0 0;s0 1 1 0 0;c0 20 1;", 1, 1, 0, 8);
        });
    }

    private static void ringOrNone() {
        Checks.edge("18: NONE: there is no RING", () -> {
            noRing("");
            noRing("w0;");
            noRing(TWO);
            noRing(TWO + "d0 1 60;");
            noRing(TWO + "d0 1 60;d1 0 0;");
            noRing("w0;w0;w0;d0 1 1;d1 2 1;d0 2 1;");
            noRing(SIX + "d0 1 9;d1 2 9;d2 3 9;d3 4 9;d4 5 9;d0 5 9;");
        });
        Checks.edge("18: rounds of 2 WELLS or more: two", () -> ring("d0 1 1;d1 0 60;", 1, 0, 1));
        Checks.edge("18: rounds of 2 WELLS or more: all six", () ->
            ring("d0 5 60;d5 1 60;d1 4 60;d4 2 60;d2 3 60;d3 0 60;", 60, 0, 5, 1, 4, 2, 3));
        Checks.edge("18: none twice", () -> {
            ring("d0 1 9;d1 0 9;d1 2 5;d2 1 5;", 9, 0, 1);
            ring("d0 1 9;d1 2 9;d2 0 9;d2 3 9;d3 4 9;d4 2 9;", 9, 0, 1, 2);
        });
        Checks.edge("18: the last to the first", () -> {
            ring("d0 1 9;d1 2 9;d2 1 2;", 2, 1, 2);
            ring("d0 1 9;d1 2 9;d2 0 1;", 1, 0, 1, 2);
        });
        Checks.edge("18: the i-th (NONE: not so many)", () -> {
            WellKnots x = Checks.told(SIX + "d3 4 7;d4 3 7;");
            int[] due = {7, 2, 3, 4, NONE, NONE, NONE, NONE};
            for (int i = -2; i < 6; i++) {
                Checks.due("ring(" + i + ")", x.ring(i), due[i + 2]);
            }
        });
    }

    private static void ringOfSeveral() {
        Checks.edge("18: STRIKE is the least of these DUES, wherever it is", () -> {
            ring("d0 1 3;d1 2 60;d2 0 60;", 3, 0, 1, 2);
            ring("d0 1 60;d1 2 3;d2 0 60;", 3, 0, 1, 2);
            ring("d0 1 60;d1 2 60;d2 0 3;", 3, 0, 1, 2);
        });
        Checks.edge("18: that of most STRIKE times WELLS", () -> {
            ring("d0 1 6;d1 0 6;d2 3 5;d3 4 5;d4 2 5;", 5, 2, 3, 4);
            ring("d0 1 8;d1 0 8;d2 3 5;d3 4 5;d4 2 5;", 8, 0, 1);
        });
        Checks.edge("18: of several that of fewest WELLS", () -> {
            ring("d0 1 4;d1 2 4;d2 0 4;d3 4 6;d4 3 6;", 6, 3, 4);
            ring("d0 1 1;d1 2 1;d2 3 1;d3 4 1;d4 5 1;d5 0 1;d4 3 3;d3 4 3;", 3, 3, 4);
            ring("d0 1 2;d1 2 2;d2 3 2;d3 4 2;d4 5 2;d5 0 2;d3 5 4;d4 3 4;d5 4 4;", 4, 3, 5, 4);
        });
        Checks.edge("18: then the first (from its lowest WELL on, WELL by WELL)", () -> {
            ring("d4 5 3;d5 4 3;d1 2 3;d2 1 3;", 3, 1, 2);
            ring("d0 2 6;d2 0 6;d0 1 6;d1 0 6;", 6, 0, 1);
            ring("d0 2 5;d2 1 5;d1 0 5;d0 1 5;d1 2 5;d2 0 5;", 5, 0, 1, 2);
            ring("d0 1 5;d1 3 5;d3 2 5;d2 0 5;d1 2 5;d2 3 1;d3 0 1;d0 3 5;", 5, 0, 1, 3, 2);
        });
    }

    private static void safeFraction() {
        Checks.edge("19: n (0 .. 6): none, it is alive", () -> {
            safe(1, new int[] {9, 9, 0, 10}, 1, 1);
            safe(20, new int[] {0, 0, 0, 0}, 1, 1);
        });
        Checks.edge("19: n (0 .. 6): six, of a million", () -> {
            safe(1, new int[] {0, 2, 6, 1}, 531441, 1000000);
            safe(1, new int[] {0, 2, 6, 9}, 1, 1000000);
            safe(20, new int[] {3, 2, 6, 3}, 16807, 40000);
        });
        Checks.edge("19: x (0 .. 10): never, always", () -> {
            safe(10, new int[] {5, 1, 2, 0}, 1, 1);
            safe(10, new int[] {5, 1, 2, 10}, 0, 1);
            safe(12, new int[] {5, 1, 2, 10}, 1, 1);
        });
        Checks.edge("19: h, more (0 .. 9): none", () -> {
            safe(1, new int[] {0, 0, 6, 5}, 1, 1);
            safe(1, new int[] {1, 0, 1, 5}, 1, 1);
            safe(1, new int[] {1, 0, 2, 5}, 0, 1);
        });
        Checks.edge("19: h, more (0 .. 9): the most", () -> {
            safe(18, new int[] {9, 9, 1, 10}, 1, 1);
            safe(17, new int[] {9, 9, 1, 10}, 0, 1);
            safe(17, new int[] {9, 9, 1, 9}, 1, 10);
            safe(20, new int[] {9, 9, 2, 1}, 81, 100);
        });
        Checks.edge("19: in least terms", () -> {
            safe(1, new int[] {1, 1, 1, 5}, 1, 2);
            safe(1, new int[] {1, 1, 1, 2}, 4, 5);
            safe(1, new int[] {1, 1, 1, 3}, 7, 10);
            safe(10, new int[] {5, 1, 2, 5}, 1, 4);
            safe(10, new int[] {5, 1, 2, 6}, 4, 25);
            safe(1, new int[] {0, 1, 2, 5}, 3, 4);
        });
        Checks.edge("19: in least terms, 0 and 1", () -> {
            safe(1, new int[] {9, 0, 6, 3}, 0, 1);
            safe(20, new int[] {1, 1, 6, 3}, 1, 1);
        });
    }

    private static void safeOrNot() {
        Checks.edge("19: alive: DRY by just what it BEARS, by one more", () -> {
            safe(12, new int[] {4, 0, 3, 0}, 1, 1);
            safe(11, new int[] {4, 0, 3, 0}, 0, 1);
            safe(12, new int[] {4, 1, 3, 1}, 729, 1000);
            safe(13, new int[] {4, 1, 3, 1}, 243, 250);
        });
        Checks.edge("19: by what it is DRY already", () -> {
            WellKnots x = Checks.told(TWO + "s0 1 9 0 0;c0 20 10;");
            x.goes(0, 0, 0);
            Checks.due("h 1: upper", x.safe(0, 1, 1, 1, 5, 0), 1);
            Checks.due("h 1: lower", x.safe(0, 1, 1, 1, 5, 1), 2);
            Checks.due("h 2", x.safe(0, 2, 0, 1, 0, 0), 0);
            x.goes(0, 0, 8);
            Checks.due("DRY by all: h 0", x.safe(0, 0, 0, 6, 10, 0), 1);
            Checks.due("DRY by all: h 1", x.safe(0, 1, 0, 1, 0, 0), 0);
        });
        Checks.edge("19: all of it THIRST, whatever its CUPS", () -> {
            WellKnots x = Checks.told("w0;c0 20 1;");
            Checks.due("safe(0, 2, 0, 1, 0, 0)", x.safe(0, 2, 0, 1, 0, 0), 0);
            Checks.due("safe(0, 2, 0, 1, 0, 1)", x.safe(0, 2, 0, 1, 0, 1), 1);
        });
        Checks.edge("19: STATE: it is dead", () -> {
            Twins.refused("safe(2, 0, 0, 0, 0, 0)", Twins::rich, x -> x.safe(2, 0, 0, 0, 0, 0), STATE);
            Twins.refused("safe(2, 1, 1, 1, 1, 1)", Twins::rich, x -> x.safe(2, 1, 1, 1, 1, 1), STATE);
        });
        Checks.edge("19: BAD comes ahead of STATE", () -> {
            Twins.refused("h", Twins::rich, x -> x.safe(2, 10, 0, 0, 0, 0), BAD);
            Twins.refused("more", Twins::rich, x -> x.safe(2, 0, 10, 0, 0, 0), BAD);
            Twins.refused("n", Twins::rich, x -> x.safe(2, 0, 0, 7, 0, 0), BAD);
            Twins.refused("x", Twins::rich, x -> x.safe(2, 0, 0, 0, 11, 0), BAD);
            Twins.refused("what", Twins::rich, x -> x.safe(2, 0, 0, 0, 0, 2), BAD);
        });
    }

    private static void nothingIsChanged() {
        Checks.edge("17: (Nothing is changed.)", () -> Twins.unchanged("pass()", Twins::rich,
            x -> x.pass(0, 2, 0) + x.pass(0, 0, 1) + x.pass(1, 0, 2)));
        Checks.edge("18: (Nothing is changed.)", () -> Twins.unchanged("ring()", Twins::rich,
            x -> x.ring(-2) + x.ring(-1) + x.ring(0) + x.ring(5)));
        Checks.edge("19: (Nothing is changed.)", () -> Twins.unchanged("safe()", Twins::rich,
            x -> x.safe(0, 9, 9, 6, 5, 0) + x.safe(1, 1, 1, 2, 3, 1)));
    }

    private static void pass(String text, int w, int stages, int first, int cups) {
        pass("'" + text + "'", () -> Checks.told(text), w, new int[] {stages, first, cups});
    }

    private static void pass(String name, Supplier<WellKnots> made, int w, int[] due) {
        WellKnots x = made.get();
        for (int what = 0; what < 3; what++) {
            Checks.due("pass(0, " + w + ", " + what + ") on " + name, x.pass(0, w, what), due[what]);
        }
    }

    private static void noRing(String text) {
        WellKnots x = Checks.told(text);
        for (int i = -2; i < 6; i++) {
            Checks.due("ring(" + i + ") of '" + text + "'", x.ring(i), NONE);
        }
    }

    private static void ring(String dues, int strike, int... wells) {
        WellKnots x = Checks.told(SIX + dues);
        Checks.due("STRIKE of " + dues, x.ring(-2), strike);
        Checks.due("WELLS of " + dues, x.ring(-1), wells.length);
        for (int i = 0; i < 6; i++) {
            Checks.due("ring(" + i + ") of " + dues, x.ring(i), i < wells.length ? wells[i] : NONE);
        }
    }

    /** Of a caravan that bears so much and has cups that are no help: h, more, n and x as asked. */
    private static void safe(int bears, int[] asked, int upper, int lower) {
        WellKnots x = Checks.told("w0;c0 20 " + bears + ";");
        String call = "safe by " + bears + " of " + java.util.Arrays.toString(asked);
        Checks.due(call + ": upper", x.safe(0, asked[0], asked[1], asked[2], asked[3], 0), upper);
        Checks.due(call + ": lower", x.safe(0, asked[0], asked[1], asked[2], asked[3], 1), lower);
    }
}

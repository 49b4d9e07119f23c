import java.util.function.Supplier;

/** Boundary cases of promises 20 to 27, stones, kinds and images: a test for each sentence that names one. */
public final class RestEdgesTest {
    private static final int STATE = -2, BAD = -1, FULL = -3, NO = -1000000;
    private static final String FOUR = "w0;w0;s0 1 5 0 0;c0 0 1;c0 0 1;c0 0 1;c0 0 1;";

    public static void main(String[] args) {
        hears();
        forget();
        stones();
        mark();
        keep();
        back();
        count();
        trace();
        Checks.end("RestEdgesTest");
    }

    private static void hears() {
        Checks.edge("20: how much there is", () -> {
            WellKnots x = Checks.told(FOUR);
            for (int n = 1; n <= 6; n++) {
                Checks.due("hears() for the " + n + "th time", x.hears(n % 4, 0, 0, 0), n);
                Checks.due("count(3)", x.count(3), n);
            }
        });
        Checks.edge("20: FULL (6 at most)", () ->
            Twins.refused("hears() with 6", () -> heard(6), x -> x.hears(3, 0, 4, 0), FULL));
        Checks.edge("20: BAD comes ahead of FULL", () -> {
            Twins.refused("hears(4, 0, 0, 0)", () -> heard(6), x -> x.hears(4, 0, 0, 0), BAD);
            Twins.refused("hears(0, 1, 0, 0)", () -> heard(6), x -> x.hears(0, 1, 0, 0), BAD);
            Twins.refused("hears(0, 0, 10, 0)", () -> heard(6), x -> x.hears(0, 0, 10, 0), BAD);
            Twins.refused("hears(0, 0, 0, -1)", () -> heard(6), x -> x.hears(0, 0, 0, -1), BAD);
        });
        Checks.edge("20: of a dead CARAVAN, of a STAGE that it is not AT", () -> {
            WellKnots x = Twins.rich();
            Checks.due("hears(2, 0, 3, 0)", x.hears(2, 0, 3, 0), 3);
            Checks.due("SUCKED", x.stones(0) & 4, 4);
        });
        Checks.edge("20: nothing else changes", () -> Twins.alike("hears() and forget()", () -> {
            WellKnots x = Checks.told(FOUR);
            x.hears(0, 0, 0, 0);
            x.forget();
            return x;
        }, () -> Checks.told(FOUR)));
    }

    private static void forget() {
        Checks.edge("21: how much there was, none", () ->
            Twins.refused("forget() of none", () -> heard(0), x -> x.forget(), 0));
        Checks.edge("21: how much there was, 6", () -> {
            WellKnots x = heard(6);
            Checks.due("forget()", x.forget(), 6);
            Checks.due("count(3)", x.count(3), 0);
            Checks.due("hears() is not FULL then", x.hears(0, 0, 0, 0), 1);
        });
        Checks.edge("21: Nothing was HEARD", () -> Twins.alike("forget()", () -> {
            WellKnots x = heard(6);
            x.forget();
            return x;
        }, () -> heard(0)));
    }

    private static void stones() {
        Checks.edge("22: SUCKED: STONES are 1 .. 3", () -> {
            int[] due = {0, 0, 1, 1, 1, 0, 0};
            for (int stones = -1; stones <= 5; stones++) {
                Checks.due("SUCKED by " + stones, heardBy(stones).stones(0), due[stones + 1]);
            }
        });
        Checks.edge("22: LIARS: they are beyond 0 .. 3", () -> {
            int[] due = {1, 0, 0, 0, 0, 1, 1};
            for (int stones = -1; stones <= 5; stones++) {
                Checks.due("LIARS by " + stones, heardBy(stones).stones(1), due[stones + 1]);
            }
        });
        Checks.edge("22: STONES: HEAT less d, less r: the most, and the fewest", () -> {
            WellKnots x = Checks.told("w0;w0;s0 1 9 0 0;s0 1 1 0 0;c0 0 1;c0 0 1;");
            x.hears(0, 0, 0, 0);
            Checks.due("LIARS by 9", x.stones(1), 1);
            x.hears(1, 1, 9, 9);
            Checks.due("LIARS by -17", x.stones(1), 3);
            Checks.due("SUCKED", x.stones(0), 0);
        });
        Checks.edge("22: of which something was HEARD, and something else too", () -> {
            WellKnots x = Checks.told(FOUR);
            x.hears(3, 0, 5, 0);
            x.hears(3, 0, 4, 0);
            Checks.due("SUCKED by 0 and 1", x.stones(0), 8);
            x.hears(3, 0, 9, 0);
            x.hears(3, 0, 2, 3);
            Checks.due("SUCKED by -4 too", x.stones(0), 8);
            Checks.due("LIARS by -4 too", x.stones(1), 8);
        });
        Checks.edge("22: as bits: none, the lowest, the highest, all", () -> {
            WellKnots x = Checks.told(FOUR);
            Checks.due("none", x.stones(0) + x.stones(1), 0);
            x.hears(3, 0, 4, 0);
            Checks.due("the highest", x.stones(0), 8);
            x.hears(0, 0, 4, 0);
            Checks.due("and the lowest", x.stones(0), 9);
            x.hears(1, 0, 2, 0);
            x.hears(2, 0, 0, 2);
            Checks.due("all", x.stones(0), 15);
            Checks.due("no LIARS", x.stones(1), 0);
        });
        Checks.edge("22: nothing is changed", () ->
            Twins.unchanged("stones()", Twins::rich, x -> x.stones(0) + x.stones(1)));
    }

    private static void mark() {
        Checks.edge("23: NO: BAD, and nothing comes to THE TRACE", () -> {
            Twins.refused("mark(6, 0)", Twins::rich, x -> x.mark(6, 0), NO);
            Twins.refused("mark(-1, 0)", Twins::rich, x -> x.mark(-1, 0), NO);
            Twins.refused("mark(0, 3)", Twins::rich, x -> x.mark(0, 3), NO);
            Twins.refused("mark(4, -1)", Twins::rich, x -> x.mark(4, -1), NO);
        });
        Checks.edge("23: MARK of a WELL that has nothing", () -> {
            int[] due = {0, 0, 0, 0, 1, 0};
            for (int kind = 0; kind < 6; kind++) {
                Checks.due("mark(" + kind + ", 1)", Checks.told("w0;w0;").mark(kind, 1), due[kind]);
            }
        });
        Checks.edge("23: MARK is below 0 too, and not mistaken for a refusal", () -> {
            for (int n : new int[] {1, 2, 3, 9, 60}) {
                WellKnots x = Checks.told("w0;w0;d0 1 " + n + ";d1 0 " + n + ";");
                Checks.due("DEW", x.mark(2, 0), -n);
                Checks.due("CAMEL", x.mark(4, 1), 1 - n);
            }
        });
        Checks.edge("23: WELL: KNOTS of all CARAVANS at it", () -> marks(0, 9, 4, 60));
        Checks.edge("23: KNOT: and STAGES of which it is LENDER: none, one, several", () -> marks(1, 9, 5, 62));
        Checks.edge("23: DEW: less its DUES to all others", () -> marks(2, 2, -46, 60));
        Checks.edge("23: CHILD: up times 2", () -> marks(3, 18, 10, 124));
        Checks.edge("23: CAMEL: and its number, 0 too", () -> marks(4, 2, -45, 62));
        Checks.edge("23: MIRAGE: and the SAND", () -> marks(5, 22, 17, 73));
        Checks.edge("23: nothing changes but THE TRACE", () -> {
            for (int kind = 0; kind < 6; kind++) {
                int asked = kind;
                Twins.alikeButTrace("mark(" + kind + ", 1)", () -> {
                    WellKnots x = Twins.rich();
                    x.mark(asked, 1);
                    return x;
                }, Twins::rich);
            }
        });
    }

    /** Marks as if of a kind of wells 0 to 2, beside a caravan whose 13 knots are sand. */
    private static void marks(int kind, int... due) {
        WellKnots x = Checks.told("w0;w0;w0;s0 1 9 0 2;s1 2 1 0 2;s0 1 1 0 1;c0 0 8;c1 0 20;c2 0 20;"
            + "k0 0 13;k1 0 9;k1 2 50;k2 2 10;k2 1 4;d0 1 3;d0 2 4;d1 0 50;");
        x.goes(0, 0, 0);
        for (int w = 0; w < 3; w++) {
            Checks.due("mark(" + kind + ", " + w + ")", x.mark(kind, w), due[w]);
        }
    }

    private static void keep() {
        Checks.edge("24: the SAND, none and some", () -> {
            Checks.due("none", heard(0).keep(0), 0);
            Checks.due("some", Twins.rich().keep(1), 7);
            Checks.due("of a new object", new WellKnots().keep(0), 0);
        });
        Checks.edge("24: IMAGES 0, 1, each for itself", () -> {
            WellKnots x = Twins.filled(1);
            x.keep(0);
            x.fills(0, 1);
            x.keep(1);
            x.fills(0, 1);
            x.back(0);
            Checks.due("image 0", x.caravan(0, 1), 1);
            x.back(1);
            Checks.due("image 1", x.caravan(0, 1), 2);
        });
        Checks.edge("24: kept again: the later", () -> {
            WellKnots x = Twins.filled(1);
            x.keep(0);
            x.fills(0, 4);
            x.keep(0);
            x.undo();
            x.undo();
            x.back(0);
            Checks.due("CUPS", x.caravan(0, 1), 5);
        });
        Checks.edge("24: keeps NOW, nothing of it changes", () -> Twins.alike("keep() of what is kept there", () -> {
            WellKnots x = Twins.rich();
            x.keep(0);
            x.keep(0);
            return x;
        }, () -> {
            WellKnots x = Twins.rich();
            x.keep(0);
            return x;
        }));
    }

    private static void back() {
        Checks.edge("25: STATE: none was kept", () -> {
            Twins.refused("back(0)", () -> Twins.filled(3), x -> x.back(0), STATE);
            Twins.refused("back(1)", () -> Twins.filled(3), x -> x.back(1), STATE);
        });
        Checks.edge("25: STATE: none was kept there", () -> {
            Twins.refused("back(1)", () -> keptIn(0), x -> x.back(1), STATE);
            Twins.refused("back(0)", () -> keptIn(1), x -> x.back(0), STATE);
            Checks.due("the other one", keptIn(1).back(1), 0);
        });
        Checks.edge("25: BAD comes ahead of STATE", () -> {
            Twins.refused("back(2)", () -> Twins.filled(3), x -> x.back(2), BAD);
            Twins.refused("back(-1)", () -> Twins.filled(3), x -> x.back(-1), BAD);
        });
        Checks.edge("25: read anew, IMAGES are gone", () -> {
            for (int image = 0; image < 2; image++) {
                int asked = image;
                Twins.refused("back(" + image + ")", () -> {
                    WellKnots x = Twins.rich();
                    x.road();
                    return x;
                }, x -> x.back(asked), STATE);
            }
        });
        Checks.edge("25: All of that becomes as an IMAGE has it", () -> {
            Supplier<WellKnots> made = () -> {
                WellKnots x = Twins.rich();
                x.keep(0);
                return x;
            };
            Twins.alike("deeds and back(0)", () -> {
                WellKnots x = made.get();
                deeds(x);
                x.back(0);
                return x;
            }, made);
        });
        Checks.edge("25: what may be UNDONE, none and ten", () -> {
            WellKnots x = Twins.filled(0);
            x.keep(0);
            for (int n = 0; n < 12; n++) {
                x.fills(0, 1);
            }
            x.keep(1);
            x.back(0);
            Checks.due("none", x.count(4), 0);
            Checks.due("undo()", x.undo(), STATE);
            x.back(1);
            Checks.due("ten", x.count(4), 10);
            for (int left = 9; left >= 0; left--) {
                Checks.due("undo()", x.undo(), left);
                Checks.due("CUPS", x.caravan(0, 1), 2 + left);
            }
        });
        Checks.edge("25: as often as one likes: the IMAGE stays as it was", () -> {
            WellKnots x = Twins.filled(2);
            x.keep(1);
            for (int n = 0; n < 3; n++) {
                x.undo();
                x.fills(0, 9);
                Checks.due("back(1)", x.back(1), 0);
                Checks.due("CUPS", x.caravan(0, 1), 2);
                Checks.due("count(4)", x.count(4), 2);
            }
        });
        Checks.edge("25: nothing else: HEARD, THE TEXT and THE TRACE stay", () -> {
            WellKnots x = Twins.rich();
            x.back(0);
            Checks.due("HEARD", x.count(3), 2);
            Checks.due("SUCKED", x.stones(0), 1);
            Checks.due("LIARS", x.stones(1), 2);
            Checks.due("THE TEXT", x.count(5), 13);
            Checks.due("THE TRACE", x.trace(), 10101);
        });
        Checks.edge("25: the SAND, none and some", () -> {
            WellKnots x = Checks.told("w0;w0;s0 1 9 0 0;c0 0 1;k0 0 60;");
            x.keep(0);
            x.goes(0, 0, 0);
            x.keep(1);
            Checks.due("back(0)", x.back(0), 0);
            Checks.due("now(0)", x.now(0), 0);
            Checks.due("back(1)", x.back(1), 60);
            Checks.due("now(0)", x.now(0), 60);
        });
    }

    private static void count() {
        Checks.edge("26: each at its most", () -> {
            WellKnots x = Twins.most();
            for (int n = 0; n < 6; n++) {
                x.hears(0, 0, 0, 0);
            }
            for (int n = 0; n < 11; n++) {
                x.fills(2, 1);
            }
            Checks.type(x, " ".repeat(201));
            int[] due = {6, 8, 4, 6, 10, 200};
            for (int what = 0; what < 6; what++) {
                Checks.due("count(" + what + ")", x.count(what), due[what]);
            }
        });
        Checks.edge("26: each at its least", () -> {
            WellKnots x = Checks.told("");
            for (int what = 0; what < 6; what++) {
                Checks.due("count(" + what + ")", x.count(what), 0);
            }
        });
        Checks.edge("26: nothing is changed", () -> Twins.unchanged("count()", Twins::rich,
            x -> x.count(0) + x.count(1) + x.count(2) + x.count(3) + x.count(4) + x.count(5)));
    }

    private static void trace() {
        Checks.edge("27: as often as mark() asks that body", () -> {
            long[] due = {1, 11, 101, 1011, 10101, 100001};
            for (int kind = 0; kind < 6; kind++) {
                WellKnots x = Checks.told("w0;");
                for (int n = 1; n <= 3; n++) {
                    x.mark(kind, 0);
                    Checks.due("THE TRACE behind " + n + " of kind " + kind, x.trace(), due[kind] * n);
                }
            }
        });
        Checks.edge("27: the most that calls can bring", () -> {
            WellKnots x = Checks.told("w0;");
            for (int n = 0; n < 500; n++) {
                x.mark(5, 0);
            }
            Checks.due("trace()", x.trace(), 500L * 100001);
        });
        Checks.edge("27: nothing is changed", () -> Twins.unchanged("trace()", Twins::rich, x -> x.trace()));
    }

    private static WellKnots heard(int times) {
        WellKnots x = Checks.told(FOUR);
        for (int n = 0; n < times; n++) {
            x.hears(0, 0, 5, 0);
        }
        return x;
    }

    /** Of caravan 0 something was heard by which stones are so many. */
    private static WellKnots heardBy(int stones) {
        WellKnots x = Checks.told("w0;w0;s0 1 6 0 0;c0 0 1;");
        x.hears(0, 0, 1, 5 - stones);
        Checks.due("HEARD", x.count(3), 1);
        return x;
    }

    private static WellKnots keptIn(int image) {
        WellKnots x = Twins.filled(2);
        x.keep(image);
        x.fills(0, 3);
        return x;
    }

    private static void deeds(WellKnots x) {
        Checks.due("goes", x.goes(0, 1, 0), 1);
        Checks.due("drinks", x.drinks(0, 10), 17);
        Checks.due("fills", x.fills(0, 1), 18);
        Checks.due("hands", x.hands(1, 0, 1, 30), 33);
        Checks.due("strikes", x.strikes(), 8);
        Checks.due("goes", x.goes(0, 1, 0), 1);
        Checks.due("goes and dies", x.goes(0, 1, 0), 0);
    }
}

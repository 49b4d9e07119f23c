import java.lang.reflect.Field;
import java.util.function.Supplier;
import java.util.function.ToLongFunction;

/** Boundary cases of promises 10 to 16: a test for each sentence that names one. */
public final class DeedsEdgesTest {
    private static final int STATE = -2, BAD = -1;
    private static final String TWO = "w0;w1;";

    public static void main(String[] args) {
        goesOrNot();
        goesAndDies();
        goesAndPays();
        drinks();
        fills();
        hands();
        strikes();
        undo();
        undoesEach();
        now();
        Checks.end("DeedsEdgesTest");
    }

    private static void goesOrNot() {
        Checks.edge("10: a STAGE that has an end where it is AT: either end", () -> {
            WellKnots x = Checks.told(TWO + "s0 1 1 0 0;c0 0 20;c1 0 20;");
            Checks.due("from the first end", x.goes(0, 0, 0), 1);
            Checks.due("AT the second", x.caravan(0, 0), 1);
            Checks.due("from the second end", x.goes(1, 0, 0), 1);
            Checks.due("AT the first", x.caravan(1, 0), 0);
        });
        Checks.edge("10: STATE: not AT an end of it", () -> {
            refused("w0;w0;w0;s0 1 1 0 2;c2 9 9;", x -> x.goes(0, 0, 0));
            refused("w0;w0;w0;s0 1 1 0 0;s1 2 1 0 0;c0 9 9;", x -> x.goes(0, 1, 1));
            Twins.refused("goes(0, 2, 0)", Twins::rich, x -> x.goes(0, 2, 0), STATE);
        });
        Checks.edge("10: STATE: it has not so many CUPS", () -> {
            refused(TWO + "s0 1 9 0 0;c0 4 20;", x -> x.goes(0, 0, 5));
            refused(TWO + "s0 1 9 0 0;c0 0 20;", x -> x.goes(0, 0, 1));
            WellKnots x = Checks.told(TWO + "s0 1 9 0 0;c0 4 20;");
            Checks.due("just so many", x.goes(0, 0, 4), 1);
            Checks.due("none is left", x.caravan(0, 1), 0);
        });
        Checks.edge("10: STATE: d is more than HEAT", () -> {
            refused(TWO + "s0 1 8 0 0;c0 20 20;", x -> x.goes(0, 0, 9));
            refused(TWO + "s0 1 1 0 0;c0 20 20;", x -> x.goes(0, 0, 2));
            WellKnots x = Checks.told(TWO + "s0 1 9 0 0;s0 1 1 0 0;c0 20 20;");
            Checks.due("just HEAT, the most", x.goes(0, 0, 9), 1);
            Checks.due("just HEAT, the least", x.goes(0, 1, 1), 1);
            Checks.due("not DRY", x.caravan(0, 3), 0);
            Checks.due("so many fewer", x.caravan(0, 1), 10);
        });
        Checks.edge("10: STATE: it is dead", () -> {
            Twins.refused("goes(2, 1, 0)", Twins::rich, x -> x.goes(2, 1, 0), STATE);
            Twins.refused("goes(0, 0, 9)", dead(TWO + "s0 1 9 0 0;c0 20 1;"), x -> x.goes(0, 0, 9), STATE);
        });
        Checks.edge("10: BAD comes ahead of STATE", () -> {
            Supplier<WellKnots> made = dead(TWO + "w0;s0 1 9 0 0;c0 0 1;");
            Twins.refused("goes(0, 0, 10)", made, x -> x.goes(0, 0, 10), BAD);
            Twins.refused("goes(0, 0, -1)", made, x -> x.goes(0, 0, -1), BAD);
            Twins.refused("goes(0, 1, 0)", made, x -> x.goes(0, 1, 0), BAD);
        });
        Checks.edge("10: with d CUPS, none", () -> {
            WellKnots x = Checks.told(TWO + "s0 1 9 0 0;c0 7 9;");
            Checks.due("goes(0, 0, 0)", x.goes(0, 0, 0), 1);
            Checks.due("CUPS", x.caravan(0, 1), 7);
            Checks.due("DRY", x.caravan(0, 3), 9);
        });
    }

    private static void goesAndDies() {
        Checks.edge("10: DRY by more than it BEARS: by just that much it lives", () -> {
            WellKnots x = Checks.told(TWO + "s0 1 9 0 0;s0 1 2 0 0;c0 0 20;c0 8 1;");
            Checks.due("DRY 9", x.goes(0, 0, 0), 1);
            Checks.due("DRY 18", x.goes(0, 0, 0), 1);
            Checks.due("DRY 20 of 20", x.goes(0, 1, 0), 1);
            Checks.due("DRY 1 of 1", x.goes(1, 0, 8), 1);
            Checks.due("who lives", x.now(1), 3);
        });
        Checks.edge("10: DRY by more than it BEARS: by one more it is dead", () -> {
            WellKnots x = Checks.told(TWO + "s0 1 9 0 0;s0 1 3 0 0;c0 0 20;c0 7 1;");
            x.goes(0, 0, 0);
            x.goes(0, 0, 0);
            Checks.due("DRY 21 of 20", x.goes(0, 1, 0), 0);
            Checks.due("DRY 2 of 1", x.goes(1, 0, 7), 0);
            Checks.due("who lives", x.now(1), 0);
            Checks.due("DRY", x.caravan(0, 3), 21);
        });
        Checks.edge("10: dead: it has d fewer, is AT the other end, DRY by that much more", () -> {
            WellKnots x = Checks.told(TWO + "s0 1 9 0 0;c0 7 4;");
            Checks.due("goes(0, 0, 3)", x.goes(0, 0, 3), 0);
            Checks.due("CUPS", x.caravan(0, 1), 4);
            Checks.due("AT", x.caravan(0, 0), 1);
            Checks.due("DRY", x.caravan(0, 3), 6);
        });
        Checks.edge("10: dead: all its KNOTS come to the SAND, those at LENDER whole, it has none", () -> {
            WellKnots x = Checks.told(TWO + "w0;s0 1 9 0 0;c0 0 1;c0 0 9;k0 0 60;k0 1 7;k0 2 1;k1 0 30;");
            Checks.due("goes(0, 0, 0)", x.goes(0, 0, 0), 0);
            Checks.due("the SAND", x.now(0), 68);
            Checks.due("KNOTS of it", x.caravan(0, 5), 0);
            for (int w = 0; w < 3; w++) {
                Checks.due("KNOTS of it at " + w, x.knots(0, w), 0);
            }
            Checks.due("KNOTS of the other", x.knots(1, 0), 30);
        });
        Checks.edge("10: dead, with no KNOTS: nothing comes to the SAND", () -> {
            WellKnots x = Checks.told(TWO + "s0 1 9 0 0;c0 0 1;c0 0 9;k1 0 30;");
            Checks.due("goes(0, 0, 0)", x.goes(0, 0, 0), 0);
            Checks.due("the SAND", x.now(0), 0);
        });
        Checks.edge("10: the SAND of one and of another", () -> {
            WellKnots x = Checks.told(TWO + "s0 1 9 0 0;c0 0 1;c0 0 1;c0 0 1;c0 0 1;k0 0 60;k1 1 60;k2 0 60;k3 1 60;");
            for (int c = 0; c < 4; c++) {
                Checks.due("goes(" + c + ", 0, 0)", x.goes(c, 0, 0), 0);
                Checks.due("the SAND", x.now(0), 60 * (c + 1));
            }
            Checks.due("who lives", x.now(1), 0);
        });
        Checks.edge("10: the SAND, 9999 at most", () -> {
            sandBehind(9938, 9998);
            sandBehind(9939, 9999);
            sandBehind(9940, 9999);
            sandBehind(9999, 9999);
        });
    }

    private static void goesAndPays() {
        Checks.edge("10: PAID: THIRST by day", () -> {
            paid("s0 1 9 0 0;", 0, 20, 11);
            paid("s0 1 9 0 0;", 8, 20, 19);
        });
        Checks.edge("10: PAID: THIRST by day, none", () -> paid("s0 1 9 0 0;", 9, 20, 20));
        Checks.edge("10: PAID: by day, to a LENDER that REFUSES night too", () -> paid("s0 1 9 0 1;", 0, 20, 11));
        Checks.edge("10: PAID: half of it (cut) by NIGHT", () -> {
            paid("s0 1 9 1 0;", 0, 20, 16);
            paid("s0 1 9 1 0;", 1, 20, 16);
            paid("s0 1 9 1 0;", 6, 20, 19);
            paid("s0 1 9 1 0;", 7, 20, 19);
            paid("s0 1 9 1 0;", 8, 20, 20);
            paid("s0 1 9 1 0;", 9, 20, 20);
        });
        Checks.edge("10: PAID: nothing by NIGHT if LENDER REFUSES it", () -> {
            paid("s0 1 9 1 1;", 0, 20, 20);
            paid("s0 1 9 1 1;", 5, 20, 20);
        });
        Checks.edge("10: KNOTS at LENDER are fewer by PAID (0 at least)", () -> {
            paid("s0 1 9 0 0;", 0, 10, 1);
            paid("s0 1 9 0 0;", 0, 9, 0);
            paid("s0 1 9 0 0;", 0, 8, 0);
            paid("s0 1 9 0 0;", 0, 0, 0);
            paid("s0 1 9 1 0;", 0, 4, 0);
            paid("s0 1 9 1 0;", 0, 3, 0);
        });
    }

    /** Of a caravan that goes stage 0 with d cups: its knots at the stage's lender, where it had so many. */
    private static void paid(String stage, int d, int had, int due) {
        int lender = stage.charAt(9) - '0';
        WellKnots x = Checks.told(TWO + stage + "c0 20 20;k0 0 40;k0 1 40;k0 " + lender + " " + had + ";");
        String call = "goes(0, 0, " + d + ") by " + stage;
        Checks.due(call, x.goes(0, 0, d), 1);
        Checks.due(call + " KNOTS at LENDER", x.knots(0, lender), due);
        Checks.due(call + " KNOTS elsewhere", x.knots(0, 1 - lender), 40);
        Checks.due(call + " DRY", x.caravan(0, 3), 9 - d);
        Checks.due(call + " SAND", x.now(0), 0);
    }

    private static void drinks() {
        Checks.edge("11: STATE: it is dead", () -> {
            Twins.refused("drinks(2, 1)", Twins::rich, x -> x.drinks(2, 1), STATE);
            Twins.refused("drinks(0, 9)", dead(TWO + "s0 1 9 0 0;c0 0 1;"), x -> x.drinks(0, 9), STATE);
        });
        Checks.edge("11: STATE: not DRY by so much", () -> {
            refused("w0;c0 0 20;", x -> x.drinks(0, 1));
            Twins.refused("drinks(0, 6)", () -> gone(5, 0), x -> x.drinks(0, 6), STATE);
            Twins.refused("drinks(0, 20)", () -> gone(5, 0), x -> x.drinks(0, 20), STATE);
            WellKnots x = gone(5, 0);
            Checks.due("by just so much", x.drinks(0, 5), 5);
            Checks.due("DRY", x.caravan(0, 3), 0);
        });
        Checks.edge("11: n (1 .. 20): 20, of all that it BEARS", () -> {
            WellKnots x = Checks.told(TWO + "s0 1 9 0 0;s0 1 2 0 0;c0 0 20;");
            x.goes(0, 0, 0);
            x.goes(0, 0, 0);
            x.goes(0, 1, 0);
            Checks.due("drinks(0, 20)", x.drinks(0, 20), 20);
            Checks.due("DRY", x.caravan(0, 3), 0);
        });
        Checks.edge("11: STATE: KNOTS would be above 99", () -> {
            Twins.refused("drinks(0, 5)", () -> gone(5, 95), x -> x.drinks(0, 5), STATE);
            Twins.refused("drinks(0, 1)", () -> gone(5, 99), x -> x.drinks(0, 1), STATE);
            Checks.due("99 in all", gone(5, 95).drinks(0, 4), 99);
            Checks.due("99 in all", gone(5, 94).drinks(0, 5), 99);
        });
        Checks.edge("11: BAD comes ahead of STATE", () -> {
            Twins.refused("drinks(2, 0)", Twins::rich, x -> x.drinks(2, 0), BAD);
            Twins.refused("drinks(2, 21)", Twins::rich, x -> x.drinks(2, 21), BAD);
        });
    }

    private static void fills() {
        Checks.edge("12: STATE: it is dead", () -> {
            Twins.refused("fills(2, 1)", Twins::rich, x -> x.fills(2, 1), STATE);
            Twins.refused("fills(0, 20)", dead(TWO + "s0 1 9 0 0;c0 0 1;"), x -> x.fills(0, 20), STATE);
        });
        Checks.edge("12: STATE: CUPS would be above 20", () -> {
            refused("w0;c0 20 1;", x -> x.fills(0, 1));
            refused("w0;c0 1 1;", x -> x.fills(0, 20));
            refused("w0;c0 15 1;", x -> x.fills(0, 6));
            WellKnots x = Checks.told("w0;c0 15 1;c0 0 1;");
            Checks.due("20 in all", x.fills(0, 5), 5);
            Checks.due("CUPS", x.caravan(0, 1), 20);
            Checks.due("20 at once", x.fills(1, 20), 20);
            Checks.due("CUPS", x.caravan(1, 1), 20);
        });
        Checks.edge("12: STATE: KNOTS above 99", () -> {
            Twins.refused("fills(0, 5)", () -> gone(5, 95), x -> x.fills(0, 5), STATE);
            Twins.refused("fills(0, 1)", () -> gone(5, 99), x -> x.fills(0, 1), STATE);
            Checks.due("99 in all", gone(5, 95).fills(0, 4), 99);
            Checks.due("99 in all", gone(5, 79).fills(0, 20), 99);
        });
        Checks.edge("12: BAD comes ahead of STATE", () -> {
            Twins.refused("fills(2, 0)", Twins::rich, x -> x.fills(2, 0), BAD);
            Twins.refused("fills(2, 21)", Twins::rich, x -> x.fills(2, 21), BAD);
        });
    }

    private static void hands() {
        Checks.edge("13: BAD (alike ones, too)", () -> {
            Twins.refused("hands(0, 0, 0, 1)", Twins::rich, x -> x.hands(0, 0, 0, 1), BAD);
            Twins.refused("hands(2, 2, 0, 1)", Twins::rich, x -> x.hands(2, 2, 0, 1), BAD);
            Twins.refused("hands(3, 3, 5, 1)", Twins::most, x -> x.hands(3, 3, 5, 1), BAD);
        });
        Checks.edge("13: STATE: one is dead, the second", () ->
            Twins.refused("hands(0, 2, 0, 1)", Twins::rich, x -> x.hands(0, 2, 0, 1), STATE));
        Checks.edge("13: STATE: one is dead, the first", () ->
            Twins.refused("hands(2, 0, 2, 1)", Twins::rich, x -> x.hands(2, 0, 2, 1), STATE));
        Checks.edge("13: STATE: there are not so many", () -> {
            refused("w0;w0;c0 0 1;c0 0 1;k0 0 7;k0 1 60;k1 0 60;", x -> x.hands(0, 1, 0, 8));
            refused("w0;w0;c0 0 1;c0 0 1;k0 1 60;k1 0 60;", x -> x.hands(0, 1, 0, 1));
            WellKnots x = Checks.told("w0;w0;c0 0 1;c0 0 1;k0 0 7;");
            Checks.due("just so many", x.hands(0, 1, 0, 7), 7);
            Checks.due("none is left", x.knots(0, 0), 0);
        });
        Checks.edge("13: STATE: they would be above 99", () -> {
            refused("w0;c0 0 1;c0 0 1;k0 0 60;k1 0 40;", x -> x.hands(0, 1, 0, 60));
            Twins.refused("hands(1, 0, 1, 1)", () -> gone(5, 99), x -> x.hands(1, 0, 1, 1), STATE);
            Checks.due("99 in all", Checks.told("w0;c0 0 1;c0 0 1;k0 0 60;k1 0 40;").hands(0, 1, 0, 59), 99);
        });
        Checks.edge("13: n (1 .. 99): 99 at once", () -> {
            WellKnots x = Checks.told("w0;c0 0 1;c0 0 1;c0 0 1;k0 0 60;k1 0 39;");
            Checks.due("60 and 39", x.hands(0, 1, 0, 60), 99);
            Checks.due("99", x.hands(1, 2, 0, 99), 99);
            Checks.due("none is left", x.knots(1, 0), 0);
        });
        Checks.edge("13: BAD comes ahead of STATE", () -> {
            Twins.refused("hands(0, 2, 0, 100)", Twins::rich, x -> x.hands(0, 2, 0, 100), BAD);
            Twins.refused("hands(2, 0, 0, 0)", Twins::rich, x -> x.hands(2, 0, 0, 0), BAD);
            Twins.refused("hands(2, 0, 3, 1)", Twins::rich, x -> x.hands(2, 0, 3, 1), BAD);
        });
    }

    private static void strikes() {
        Checks.edge("14: STATE: there is no RING", () -> {
            refused("w0;", x -> x.strikes());
            refused(TWO + "d0 1 60;", x -> x.strikes());
            refused("w0;w0;w0;d0 1 60;d1 2 60;d0 2 60;", x -> x.strikes());
            refused(TWO + "d0 1 60;d1 0 0;", x -> x.strikes());
        });
        Checks.edge("14: STATE: there is no RING any more", () -> Twins.refused("strikes()", () -> {
            WellKnots x = Checks.told(TWO + "d0 1 60;d1 0 7;");
            x.strikes();
            return x;
        }, x -> x.strikes(), STATE));
        Checks.edge("14: so much fewer DUES as is STRIKE: none is left, of the least", () -> {
            WellKnots x = Checks.told(TWO + "d0 1 60;d1 0 7;");
            Checks.due("strikes()", x.strikes(), 14);
            Checks.due("dues(0, 1)", x.dues(0, 1), 53);
            Checks.due("dues(1, 0)", x.dues(1, 0), 0);
        });
        Checks.edge("14: how much is struck in all: the least, and the most", () -> {
            Checks.due("1 of two", Checks.told(TWO + "d0 1 1;d1 0 1;").strikes(), 2);
            WellKnots x = Checks.told("w0;w0;w0;w0;w0;w0;d0 1 60;d1 2 60;d2 3 60;d3 4 60;d4 5 60;d5 0 60;d1 0 3;");
            Checks.due("60 of six", x.strikes(), 360);
            Checks.due("the last to the first", x.dues(5, 0), 0);
            Checks.due("those off the RING stay", x.now(3), 3);
        });
    }

    private static void undo() {
        Checks.edge("15: STATE: none", () -> {
            refused(TWO + "c0 0 1;", x -> x.undo());
            Twins.refused("undo() of all and one more", () -> {
                WellKnots x = Twins.rich();
                for (int n = 0; n < 6; n++) {
                    x.undo();
                }
                return x;
            }, x -> x.undo(), STATE);
        });
        Checks.edge("15: how many more may be", () -> {
            WellKnots x = Twins.filled(3);
            for (int left = 2; left >= 0; left--) {
                Checks.due("undo()", x.undo(), left);
                Checks.due("count(4)", x.count(4), left);
            }
        });
        Checks.edge("15: 10 are known", () -> {
            WellKnots x = Twins.filled(10);
            Checks.due("count(4)", x.count(4), 10);
            for (int left = 9; left >= 0; left--) {
                Checks.due("undo()", x.undo(), left);
                Checks.due("CUPS", x.caravan(0, 1), left);
            }
        });
        Checks.edge("15: older ones are lost", () -> {
            for (int deeds = 11; deeds <= 20; deeds++) {
                WellKnots x = Twins.filled(deeds);
                Checks.due("count(4)", x.count(4), 10);
                for (int left = 9; left >= 0; left--) {
                    Checks.due("undo()", x.undo(), left);
                }
                Checks.due("CUPS", x.caravan(0, 1), deeds - 10);
                Checks.due("one more", x.undo(), STATE);
            }
        });
        Checks.edge("15: what was UNDONE is not known any more", () -> {
            WellKnots x = Twins.filled(12);
            x.undo();
            x.undo();
            x.fills(0, 7);
            Checks.due("count(4)", x.count(4), 9);
            Checks.due("undo()", x.undo(), 8);
            Checks.due("CUPS", x.caravan(0, 1), 10);
        });
        Checks.edge("15: GONE, DRUNK, FILLED, HANDED, STRUCK alone are UNDONE", () -> Twins.alike("undo()", () -> {
            WellKnots x = kept();
            x.fills(0, 1);
            otherCalls(x);
            Checks.due("undo()", x.undo(), 0);
            return x;
        }, () -> {
            WellKnots x = kept();
            otherCalls(x);
            return x;
        }));
    }

    private static void undoesEach() {
        Checks.edge("15: all is as ahead of it: GONE", () -> undone(Twins::rich, x -> x.goes(0, 0, 1)));
        Checks.edge("15: all is as ahead of it: GONE, and dead", () -> {
            Supplier<WellKnots> thirsty = () -> {
                WellKnots x = Twins.rich();
                x.goes(0, 1, 0);
                return x;
            };
            Checks.due("it dies", thirsty.get().goes(0, 1, 0), 0);
            undone(thirsty, x -> x.goes(0, 1, 0));
        });
        Checks.edge("15: all is as ahead of it: DRUNK", () -> undone(Twins::rich, x -> x.drinks(0, 1)));
        Checks.edge("15: all is as ahead of it: FILLED", () -> undone(Twins::rich, x -> x.fills(0, 3)));
        Checks.edge("15: all is as ahead of it: HANDED", () -> undone(Twins::rich, x -> x.hands(1, 0, 1, 33)));
        Checks.edge("15: all is as ahead of it: STRUCK", () -> undone(Twins::rich, x -> x.strikes()));
    }

    private static void undone(Supplier<WellKnots> made, ToLongFunction<WellKnots> deed) {
        Checks.due("the deed is refused (1)", deed.applyAsLong(made.get()) < 0 ? 1 : 0, 0);
        Twins.alike("undo()", () -> {
            WellKnots x = made.get();
            deed.applyAsLong(x);
            x.undo();
            return x;
        }, made);
    }

    private static void now() {
        Checks.edge("16: who lives (bits): all, some, none", () -> {
            WellKnots x = Checks.told(TWO + "s0 1 9 0 0;c0 0 1;c0 0 1;c0 0 1;c0 0 1;");
            int[] due = {14, 12, 8, 0};
            Checks.due("all", x.now(1), 15);
            for (int c = 0; c < 4; c++) {
                x.goes(c, 0, 0);
                Checks.due("behind the death of " + c, x.now(1), due[c]);
            }
        });
        Checks.edge("16: the SAND, KNOTS of all, DUES of all: none", () -> {
            WellKnots x = Checks.told(TWO + "c0 0 1;");
            Checks.due("sums", x.now(0) + x.now(2) + x.now(3), 0);
        });
        Checks.edge("16: SETTLE: none", () -> {
            settle("", 0);
            settle("w0;", 0);
            settle(TWO, 0);
            settle(TWO + "d0 1 60;d1 0 60;", 0);
            settle("w0;w0;w0;d0 1 7;d1 2 7;d2 0 7;", 0);
        });
        Checks.edge("16: SETTLE: the fewest payments, one fewer than WELLS at most", () -> {
            settle(TWO + "d0 1 1;", 1);
            settle("w0;w0;w0;d0 1 1;d0 2 1;", 2);
            settle("w0;w0;w0;w0;w0;w0;d0 1 1;d0 2 2;d0 3 4;d0 4 8;d0 5 16;", 5);
        });
        Checks.edge("16: SETTLE: the fewest payments, by WELLS that settle among themselves", () -> {
            settle("w0;w0;w0;d0 1 9;d1 2 9;", 1);
            settle("w0;w0;w0;w0;d0 1 9;d2 3 9;", 2);
            settle("w0;w0;w0;w0;w0;w0;d0 1 1;d2 3 1;d4 5 1;", 3);
            settle("w0;w0;w0;w0;w0;w0;d0 1 3;d0 2 4;d3 4 5;d3 5 6;", 4);
            settle("w0;w0;w0;w0;w0;w0;d0 1 7;d2 1 5;d3 4 3;d3 5 2;", 4);
        });
        Checks.edge("16: SALT: no STAGE, no WELL", () -> {
            salt("", 0);
            salt("w0;w0;w0;", 0);
        });
        Checks.edge("16: SALT: the fewest WELLS", () -> {
            salt("w0;w0;w0;w0;s0 3 1 0 0;s1 3 1 0 0;s2 3 1 0 0;", 8);
            salt("w0;w0;w0;w0;w0;w0;s0 5 1 0 0;s1 5 1 0 0;s2 5 1 0 0;s3 4 1 0 0;s4 5 1 0 0;", 40);
            salt("w0;w0;w0;w0;w0;s0 1 1 0 0;s0 2 1 0 0;s0 3 1 0 0;s1 2 1 0 0;s1 3 1 0 0;s2 3 1 0 0;s0 4 1 0 0;", 7);
        });
        Checks.edge("16: SALT: of several sets the least bits", () -> {
            salt(TWO + "s1 0 1 0 0;", 1);
            salt("w0;w0;w0;w0;s2 3 1 0 0;s1 0 1 0 0;", 5);
            salt("w0;w0;w0;w0;s0 1 1 0 0;s1 2 1 0 0;s2 3 1 0 0;", 5);
        });
        Checks.edge("16: nothing is changed", () -> {
            for (int what = 0; what < 6; what++) {
                int asked = what;
                Twins.unchanged("now(" + what + ")", Twins::rich, x -> x.now(asked));
            }
        });
    }

    private static void settle(String text, int due) {
        Checks.due("SETTLE of '" + text + "'", Checks.told(text).now(4), due);
    }

    private static void salt(String text, int due) {
        Checks.due("SALT of '" + text + "'", Checks.told(text).now(5), due);
    }

    private static void refused(String text, ToLongFunction<WellKnots> call) {
        Twins.refused("the call on '" + text + "'", () -> Checks.told(text), call, STATE);
    }

    /** Caravan 0 is dead by stage 0. */
    private static Supplier<WellKnots> dead(String text) {
        return () -> {
            WellKnots x = Checks.told(text);
            x.goes(0, 0, 0);
            return x;
        };
    }

    /** Caravan 0 has no cups, is dry by so much and has so many knots where it is at; others there have more of them. */
    private static WellKnots gone(int dry, int knots) {
        WellKnots x = Checks.told("w0;w0;s0 1 9 0 0;c0 " + (9 - dry) + " 20;c1 0 20;c1 0 20;k0 1 " + Math.min(60, knots)
            + ";k1 1 60;k2 1 60;");
        x.goes(0, 0, 9 - dry);
        if (knots > 60) {
            x.hands(2, 0, 1, knots - 60);
        }
        Checks.due("DRY", x.caravan(0, 3), dry);
        Checks.due("KNOTS", x.knots(0, 1), knots);
        return x;
    }

    private static WellKnots kept() {
        WellKnots x = Checks.told(TWO + "s0 1 3 0 0;c0 5 5;");
        x.keep(0);
        x.keep(1);
        return x;
    }

    /** Calls that are no deeds, and some that are refused. */
    private static void otherCalls(WellKnots x) {
        x.hears(0, 0, 1, 1);
        x.mark(1, 1);
        Checks.type(x, "w1;");
        x.drinks(0, 9);
        x.strikes();
        x.pass(0, 1, 0);
        x.count(4);
    }

    /** No run brings so much sand together, so it is put there by hand ahead of a death that brings 60. */
    private static void sandBehind(int sand, int due) {
        WellKnots x = Checks.told(TWO + "s0 1 9 0 0;c0 0 1;k0 0 60;");
        try {
            Object now = inside(inside(x, "ledger"), "now");
            ((int[]) inside(now, "row"))[0] = sand;
        } catch (ReflectiveOperationException e) {
            Checks.due("the SAND can be put there: " + e, 0, 1);
        }
        Checks.due("the SAND ahead", x.now(0), sand);
        Checks.due("it dies", x.goes(0, 0, 0), 0);
        Checks.due("the SAND behind " + sand, x.now(0), due);
    }

    private static Object inside(Object object, String name) throws ReflectiveOperationException {
        Field field = object.getClass().getDeclaredField(name);
        field.setAccessible(true);
        return field.get(object);
    }
}

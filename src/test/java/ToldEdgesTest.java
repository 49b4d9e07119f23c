/** Boundary cases of what a text may tell, and of promises 5 to 9: a test for each sentence that names one. */
public final class ToldEdgesTest {
    private static final String TWO = "w0;w1;";
    private static final String SIX = "w0;w1;w0;w1;w0;w1;";
    private static final String STAGE = "s0 1 9 0 1;";
    private static final String CARAVAN = "c0 0 1;";

    public static void main(String[] args) {
        wells();
        stages();
        caravans();
        knots();
        dues();
        readings();
        Checks.end("ToldEdgesTest");
    }

    private static void wells() {
        Checks.edge("WELLS 0 .. (6 at most): six", () -> {
            WellKnots x = tells(SIX, 6);
            Checks.due("count(0)", x.count(0), 6);
            Checks.due("the last one", x.well(5, 0), 1);
        });
        Checks.edge("a seventh well", () -> {
            fault(SIX, "w0;", 0);
            fault(SIX, "  w1;", 2);
            fault(SIX, "w", 0);
            fault(SIX, "w2;", 0);
        });
        Checks.edge("whether it REFUSES night (1, 0)", () -> {
            WellKnots x = tells("w0;w1;", 2);
            Checks.due("0", x.well(0, 0), 0);
            Checks.due("1", x.well(1, 0), 1);
            fault("", "w2;", 1);
            fault("w0;", "w10;", 1);
            fault("w0;", "w99;", 1);
        });
    }

    private static void stages() {
        Checks.edge("STAGES 0 .. (8 at most): eight", () -> {
            WellKnots x = tells(TWO + STAGE.repeat(7) + "s1 0 1 1 0;", 10);
            Checks.due("count(1)", x.count(1), 8);
            Checks.due("the last one", x.stage(7, 0), 1);
        });
        Checks.edge("a ninth stage", () -> {
            fault(TWO + STAGE.repeat(8), STAGE, 0);
            fault(TWO + STAGE.repeat(8), "   s", 3);
            fault(TWO + STAGE.repeat(8), "s9", 0);
        });
        Checks.edge("a stage by WELLS told ahead: A", () -> {
            fault("", "s0 1 1 0 0;", 1);
            fault(TWO, "s2 1 1 0 0;w0;", 1);
            fault(SIX, "s6 1 1 0 0;", 1);
            tells(SIX + "s5 1 1 0 0;", 7);
        });
        Checks.edge("a stage by WELLS told ahead: B", () -> {
            fault("w0;", "s0 1 1 0 0;w0;", 3);
            fault(SIX, "s0 6 1 0 0;", 3);
            tells(SIX + "s0 5 1 0 0;", 7);
        });
        Checks.edge("between two unlike WELLS: B that is A", () -> {
            fault(TWO, "s0 0 1 0 0;", 3);
            fault(TWO, "s1 1 1 0 0;", 3);
            fault(SIX, "s5   5 0 0 0;", 5);
        });
        Checks.edge("HEAT (1 .. 9)", () -> {
            fault(TWO, "s0 1 0 0 0;", 5);
            Checks.due("1", tells(TWO + "s0 1 1 0 0;", 3).stage(0, 2), 1);
            Checks.due("9", tells(TWO + "s0 1 9 0 0;", 3).stage(0, 2), 9);
            fault(TWO, "s0 1 10 0 0;", 5);
        });
        Checks.edge("NIGHT (1, 0)", () -> {
            Checks.due("0", tells(TWO + "s0 1 1 0 0;", 3).stage(0, 3), 0);
            Checks.due("1", tells(TWO + "s0 1 1 1 0;", 3).stage(0, 3), 1);
            fault(TWO, "s0 1 1 2 0;", 7);
        });
        Checks.edge("LENDER (a WELL), told ahead", () -> {
            Checks.due("an end", tells(TWO + "s0 1 1 0 1;", 3).stage(0, 4), 1);
            Checks.due("the last one", tells(SIX + "s0 1 1 0 5;", 7).stage(0, 4), 5);
            fault(TWO, "s0 1 1 0 2;w0;", 9);
            fault(SIX, "s0 1 1 0 6;", 9);
        });
    }

    private static void caravans() {
        Checks.edge("CARAVANS 0 .. (4 at most): four", () -> {
            WellKnots x = tells(TWO + CARAVAN.repeat(3) + "c1 5 9;", 6);
            Checks.due("count(2)", x.count(2), 4);
            Checks.due("the last one", x.caravan(3, 0), 1);
        });
        Checks.edge("a fifth caravan", () -> {
            fault(TWO + CARAVAN.repeat(4), CARAVAN, 0);
            fault(TWO + CARAVAN.repeat(4), " c", 1);
            fault(TWO + CARAVAN.repeat(4), "c9 99 0;", 0);
        });
        Checks.edge("a caravan at a WELL told ahead", () -> {
            fault("", "c0 0 1;w0;", 1);
            fault(TWO, "c2 0 1;w0;", 1);
            fault(SIX, "c6 0 1;", 1);
            Checks.due("the last one", tells(SIX + "c5 0 1;", 7).caravan(0, 0), 5);
        });
        Checks.edge("CUPS (0 .. 20)", () -> {
            Checks.due("0", tells("w0;c0 0 1;", 2).caravan(0, 1), 0);
            Checks.due("20", tells("w0;c0 20 1;", 2).caravan(0, 1), 20);
            fault("w0;", "c0 21 1;", 3);
        });
        Checks.edge("BEARS (1 .. 20)", () -> {
            fault("w0;", "c0 0 0;", 5);
            Checks.due("1", tells("w0;c0 0 1;", 2).caravan(0, 2), 1);
            Checks.due("20", tells("w0;c0 0 20;", 2).caravan(0, 2), 20);
            fault("w0;", "c0 0 21;", 5);
        });
        Checks.edge("A CARAVAN lives, DRY is 0 at first", () -> {
            WellKnots x = tells("w0;c0 20 20;c0 0 1;", 3);
            Checks.due("who lives", x.now(1), 3);
            Checks.due("lives", x.caravan(1, 4), 1);
            Checks.due("DRY", x.caravan(0, 3) + x.caravan(1, 3), 0);
        });
    }

    private static void knots() {
        Checks.edge("KNOTS (0 .. 60 as told)", () -> {
            Checks.due("0", tells("w0;c0 0 1;k0 0 0;", 3).knots(0, 0), 0);
            Checks.due("60", tells("w0;c0 0 1;k0 0 60;", 3).knots(0, 0), 60);
            fault("w0;c0 0 1;", "k0 0 61;", 5);
            fault("w0;c0 0 1;", "k0 0 99;", 5);
        });
        Checks.edge("KNOTS, 0 at first", () -> {
            WellKnots x = tells("w0;w0;c0 20 20;k0 0 60;", 4);
            Checks.due("knots(0, 1)", x.knots(0, 1), 0);
            Checks.due("all", x.now(2), 60);
        });
        Checks.edge("knots of a CARAVAN told ahead", () -> {
            fault("w0;", "k0 0 1;c0 0 1;", 1);
            fault("w0;c0 0 1;", "k1 0 1;c0 0 1;", 1);
            fault("w0;" + CARAVAN.repeat(4), "k4 0 1;", 1);
            Checks.due("the last one", tells("w0;" + CARAVAN.repeat(4) + "k3 0 1;", 6).knots(3, 0), 1);
        });
        Checks.edge("knots at a WELL told ahead", () -> {
            fault("w0;c0 0 1;", "k0 1 1;w0;", 3);
            fault(SIX + CARAVAN, "k0 6 1;", 3);
            Checks.due("the last one", tells(SIX + CARAVAN + "k0 5 1;", 8).knots(0, 5), 1);
        });
        Checks.edge("knots told again: the later", () -> {
            Checks.due("fewer", tells("w0;c0 0 1;k0 0 60;k0 0 2;", 4).knots(0, 0), 2);
            Checks.due("none", tells("w0;c0 0 1;k0 0 60;k0 0 0;", 4).knots(0, 0), 0);
            Checks.due("more", tells("w0;c0 0 1;k0 0 0;k0 0 3;k0 0 60;", 5).knots(0, 0), 60);
        });
    }

    private static void dues() {
        Checks.edge("DUES (0 .. 60 as told)", () -> {
            Checks.due("0", tells(TWO + "d0 1 0;", 3).dues(0, 1), 0);
            Checks.due("60", tells(TWO + "d0 1 60;", 3).dues(0, 1), 60);
            fault(TWO, "d0 1 61;", 5);
            fault(TWO, "d0 1 99;", 5);
        });
        Checks.edge("DUES, 0 at first", () -> {
            WellKnots x = tells(TWO + "d0 1 60;", 3);
            Checks.due("dues(1, 0)", x.dues(1, 0), 0);
            Checks.due("all", x.now(3), 60);
        });
        Checks.edge("dues of WELLS told ahead, both", () -> {
            fault("", "d0 1 1;w0;w0;", 1);
            fault("w0;", "d0 1 1;w0;", 3);
            fault("w0;", "d1 0 1;w0;", 1);
            fault(SIX, "d6 0 1;", 1);
            fault(SIX, "d0 6 1;", 3);
            Checks.due("the last one", tells(SIX + "d5 0 1;d0 5 2;", 8).dues(5, 0), 1);
        });
        Checks.edge("dues to another one: V that is W", () -> {
            fault(TWO, "d0 0 1;", 3);
            fault(TWO, "d1 1 0;", 3);
            fault(SIX, "d5  5 99;", 4);
        });
        Checks.edge("dues told again: the later", () -> {
            Checks.due("fewer", tells(TWO + "d0 1 60;d0 1 2;", 4).dues(0, 1), 2);
            Checks.due("none", tells(TWO + "d0 1 60;d0 1 0;", 4).dues(0, 1), 0);
            Checks.due("more", tells(TWO + "d0 1 0;d0 1 60;", 4).dues(0, 1), 60);
            Checks.due("the other way is another", tells(TWO + "d0 1 7;d1 0 9;", 4).dues(0, 1), 7);
        });
    }

    private static void readings() {
        Checks.edge("5: its WELLS as told, the higher one first too", () -> {
            WellKnots x = tells(SIX + "s5 0 1 0 3;", 7);
            Checks.due("stage(0, 0)", x.stage(0, 0), 5);
            Checks.due("stage(0, 1)", x.stage(0, 1), 0);
            Twins.unchanged("stage()", Twins::rich, y -> y.stage(0, 0) + y.stage(1, 4));
        });
        Checks.edge("6: whether it lives (1, 0), all its KNOTS: of a dead one", () -> {
            WellKnots x = Twins.rich();
            int[] due = {2, 0, 1, 9, 0, 0};
            for (int what = 0; what < 6; what++) {
                Checks.due("caravan(2, " + what + ")", x.caravan(2, what), due[what]);
            }
            Twins.unchanged("caravan()", Twins::rich, y -> y.caravan(0, 5) + y.caravan(2, 4));
        });
        Checks.edge("7: NET is below 0 too, and not mistaken for a refusal", () -> {
            for (int n : new int[] {1, 2, 3, 9, 60}) {
                WellKnots x = tells(TWO + "d0 1 " + n + ";", 3);
                Checks.due("NET of the one that owes", x.well(0, 3), -n);
                Checks.due("NET of the other", x.well(1, 3), n);
            }
            Checks.due("lowest", tells(SIX + "d0 1 60;d0 2 60;d0 3 60;d0 4 60;d0 5 60;", 11).well(0, 3), -300);
            Twins.unchanged("well()", Twins::rich, y -> y.well(0, 3) + y.well(1, 1));
        });
        Checks.edge("8: KNOTS of a CARAVAN at a WELL, told none", () -> {
            Checks.due("knots(0, 0)", tells(TWO + CARAVAN, 3).knots(0, 0), 0);
            Twins.unchanged("knots()", Twins::rich, y -> y.knots(0, 0));
        });
        Checks.edge("9: BAD (alike ones, too)", () -> {
            Twins.refused("dues(0, 0)", Twins::rich, x -> x.dues(0, 0), -1);
            Twins.refused("dues(2, 2)", Twins::rich, x -> x.dues(2, 2), -1);
            Twins.refused("dues(5, 5)", Twins::most, x -> x.dues(5, 5), -1);
        });
    }

    private static WellKnots tells(String text, int items) {
        WellKnots x = new WellKnots();
        Checks.due("road() of '" + text + "'", Checks.tell(x, text), items);
        return x;
    }

    /** A text that stands up to what is more has its fault so many bytes behind, and changes nothing. */
    private static void fault(String stands, String more, int place) {
        Twins.refused("road() of '" + stands + more + "'", () -> {
            WellKnots x = new WellKnots();
            Checks.type(x, stands + more);
            return x;
        }, x -> x.road(), -10 - stands.length() - place);
    }
}

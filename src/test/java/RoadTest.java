/** Promises 1 to 9 and 26: a new object, the text, and what it told. */
public final class RoadTest {
    private static final String SIX_WELLS = "w0;w1;w0;w1;w0;w1;";

    public static void main(String[] args) {
        newObject();
        type();
        clear();
        roadThatStands();
        roadReadAnew();
        faultsOfTokens();
        faultsOfItems();
        faultsOfNumbers();
        faultChangesNothing();
        stage();
        caravan();
        well();
        knotsAndDues();
        count();
        Checks.end("RoadTest");
    }

    private static void newObject() {
        WellKnots x = new WellKnots();
        for (int what = 0; what <= 5; what++) {
            Checks.due("new: count(" + what + ")", x.count(what), 0);
            Checks.due("new: now(" + what + ")", x.now(what), 0);
        }
        Checks.due("new: stage", x.stage(0, 0), -1);
        Checks.due("new: caravan", x.caravan(0, 0), -1);
        Checks.due("new: well", x.well(0, 0), -1000000);
        Checks.due("new: knots", x.knots(0, 0), -1);
        Checks.due("new: dues", x.dues(0, 1), -1);
        Checks.due("new: goes", x.goes(0, 0, 0), -1);
        Checks.due("new: drinks", x.drinks(0, 1), -1);
        Checks.due("new: fills", x.fills(0, 1), -1);
        Checks.due("new: hands", x.hands(0, 1, 0, 1), -1);
        Checks.due("new: strikes", x.strikes(), -2);
        Checks.due("new: undo", x.undo(), -2);
        Checks.due("new: pass", x.pass(0, 0, 0), -1);
        Checks.due("new: ring", x.ring(-1), -9);
        Checks.due("new: safe", x.safe(0, 0, 0, 0, 0, 0), -1);
        Checks.due("new: hears", x.hears(0, 0, 0, 0), -1);
        Checks.due("new: forget", x.forget(), 0);
        Checks.due("new: stones", x.stones(0) + x.stones(1), 0);
        Checks.due("new: mark", x.mark(0, 0), -1000000);
        Checks.due("new: back(0)", x.back(0), -2);
        Checks.due("new: back(1)", x.back(1), -2);
        Checks.due("new: keep(0)", x.keep(0), 0);
        Checks.due("new: back(0) behind keep", x.back(0), 0);
        Checks.due("new: trace", x.trace(), 0);
        Checks.due("new: clear", x.clear(), 0);
        Checks.due("new: road", x.road(), 0);
    }

    private static void type() {
        WellKnots x = new WellKnots();
        Checks.due("type(-1)", x.type(-1), -1);
        Checks.due("type(256)", x.type(256), -1);
        Checks.due("type(least)", x.type(Integer.MIN_VALUE), -1);
        Checks.due("type(most)", x.type(Integer.MAX_VALUE), -1);
        Checks.due("type(0)", x.type(0), 1);
        Checks.due("type(255)", x.type(255), 2);
        for (int i = 3; i <= 200; i++) {
            Checks.due("type " + i, x.type(' '), i);
        }
        Checks.due("type 201", x.type(' '), -3);
        Checks.due("type 201, bad", x.type(256), -1);
        Checks.due("bytes", x.count(5), 200);
    }

    private static void clear() {
        WellKnots x = new WellKnots();
        Checks.type(x, "w0;w");
        Checks.due("clear", x.clear(), 4);
        Checks.due("clear again", x.clear(), 0);
        Checks.due("road behind clear", x.road(), 0);
        Checks.due("nothing told", x.count(0), 0);
        for (int i = 0; i < 200; i++) {
            x.type(' ');
        }
        Checks.due("clear of a full one", x.clear(), 200);
        Checks.due("type behind it", x.type(7), 1);
    }

    private static void roadThatStands() {
        WellKnots x = new WellKnots();
        Checks.due("empty text", Checks.tell(x, ""), 0);
        Checks.due("blanks", Checks.tell(x, "    "), 0);
        Checks.due("a well", Checks.tell(x, "w0;"), 1);
        Checks.due("the text is empty then", x.count(5), 0);
        Checks.due("blanks all over", Checks.tell(x, "  w   1  ;   w  0  ;  "), 2);
        Checks.due("REFUSES", x.well(0, 0), 1);
        Checks.due("all at their most", Checks.tell(x, SIX_WELLS
            + "s0 1 9 1 5;s0 1 9 1 5;s0 1 9 1 5;s0 1 9 1 5;s0 1 9 1 5;s0 1 9 1 5;s0 1 9 1 5;s5 4 1 0 0;"
            + "c5 20 20;c5 20 20;c5 20 20;c0 0 1;k3 5 60;k0 0 0;d5 0 60;d0 5 0;"), 22);
        Checks.due("wells", x.count(0), 6);
        Checks.due("stages", x.count(1), 8);
        Checks.due("caravans", x.count(2), 4);
        Checks.due("knots", x.knots(3, 5), 60);
        Checks.due("dues", x.dues(5, 0), 60);
        Checks.due("told again", Checks.tell(x, "w0;w0;c0 1 1;k0 1 9;k0 1 4;d0 1 8;d0 1 3;d1 0 5;d1 0 0;"), 9);
        Checks.due("the later knots", x.knots(0, 1), 4);
        Checks.due("the later dues", x.dues(0, 1), 3);
        Checks.due("the later dues, none", x.dues(1, 0), 0);
    }

    private static void roadReadAnew() {
        WellKnots x = Checks.told("w1;w1;s0 1 9 0 0;c0 5 8;c0 5 9;k0 0 30;k1 1 20;d0 1 5;d1 0 5;");
        x.hears(0, 0, 5, 1);
        x.goes(0, 0, 0);
        x.mark(0, 0);
        x.keep(0);
        x.keep(1);
        Checks.due("the SAND ahead", x.now(0), 30);
        Checks.due("read anew", Checks.tell(x, "w0;w0;c1 2 3;"), 3);
        Checks.due("wells", x.count(0), 2);
        Checks.due("stages", x.count(1), 0);
        Checks.due("caravans", x.count(2), 1);
        Checks.due("HEARD", x.count(3), 0);
        Checks.due("UNDONE", x.count(4), 0);
        Checks.due("undo", x.undo(), -2);
        Checks.due("image 0", x.back(0), -2);
        Checks.due("image 1", x.back(1), -2);
        Checks.due("SAND", x.now(0), 0);
        Checks.due("who lives", x.now(1), 1);
        Checks.due("KNOTS", x.now(2), 0);
        Checks.due("DUES", x.now(3), 0);
        Checks.due("REFUSES", x.well(0, 0), 0);
        Checks.due("AT", x.caravan(0, 0), 1);
        Checks.due("CUPS", x.caravan(0, 1), 2);
        Checks.due("BEARS", x.caravan(0, 2), 3);
        Checks.due("DRY", x.caravan(0, 3), 0);
        Checks.due("lives", x.caravan(0, 4), 1);
        Checks.due("THE TRACE stays", x.trace(), 1);
        Checks.due("an empty text tells that there is nothing", x.road(), 0);
        Checks.due("no wells", x.count(0), 0);
        Checks.due("no caravans", x.count(2), 0);
        Checks.due("nobody lives", x.now(1), 0);
    }

    private static void fault(String text, int place) {
        WellKnots x = new WellKnots();
        Checks.due("road() of '" + text + "'", Checks.tell(x, text), -10 - place);
        Checks.due("text of '" + text + "' stays", x.count(5), text.length());
        Checks.due("wells of '" + text + "'", x.count(0), 0);
    }

    private static void faultsOfTokens() {
        fault("W0;", 0);
        fault("w0;\t", 3);
        fault("w0;  #", 5);
        fault("w0," , 2);
        fault("w-1;", 1);
        fault("w" + (char) 0 + "0;", 1);
        fault("w0;" + (char) 255, 3);
        fault("w{0;", 1);
        fault("w`0;", 1);
        fault("w0:", 2);
        fault("w/;", 1);
        fault("ww0;", 0);
        fault("  ww0;", 2);
        fault("w0;sw0 1;", 3);
        fault("a0;", 0);
        fault("wa0;", 0);
        fault("wz0;", 0);
        fault("w0;" + (char) 0, 3);
        fault("z0;", 0);
        fault("0;", 0);
        fault(";", 0);
        fault("w0;;", 3);
        fault("w;", 1);
        fault("ww #", 0);
        fault("w00;", 1);
        fault("w01;", 1);
        fault("w100;", 1);
        fault("w 4294967296;", 2);
        fault("w 4294967297;", 2);
        fault("w 18446744073709551616;", 2);
        fault("100;", 0);
        fault("w0;01", 3);
        fault("w0 0;", 3);
        fault("w0w0;", 2);
        fault("w w", 2);
        fault("w0;w0;c0 020 1;", 9);
        fault("w0;w0;c0 2 00;", 11);
    }

    private static void faultsOfItems() {
        fault("w", 1);
        fault("w  ", 3);
        fault("w0", 2);
        fault("w0  ", 4);
        fault("w0;s", 4);
        fault("w0;w0;s0 1 1 0 0", 16);
        fault("w0;w0;s0 1 1 0", 14);
        fault("w0;w0;s0 1 1 0;", 14);
        fault("w0;w0;s0 1 1 0 0 0;", 17);
        fault("w0;c0 0;", 7);
        fault("w0;c0 0 1 1;", 10);
        fault("k0 0 1;", 1);
        fault("w0;k0 0 1;", 4);
        fault("w0;c0 0 1;k0 0;", 14);
        fault("w0;c0 0 1;k0 0 1 1;", 17);
        fault("w0;w0;d0 1;", 10);
        fault("w0;w0;d0 1 1 1;", 13);
        fault(SIX_WELLS + "w0;", 18);
        fault(SIX_WELLS + " w", 19);
        fault(SIX_WELLS + "w7;", 18);
        String stage = "s0 1 1 0 0;";
        String eight = "w0;w0;" + stage + stage + stage + stage + stage + stage + stage + stage;
        fault(eight + stage, eight.length());
        fault(eight + "  s", eight.length() + 2);
        String four = "w0;c0 0 1;c0 0 1;c0 0 1;c0 0 1;";
        fault(four + "c0 0 1;", four.length());
        fault(four + "c9", four.length());
        fault(four + "x", four.length());
    }

    private static void faultsOfNumbers() {
        fault("w2;", 1);
        fault("s0 1 1 0 0;", 1);
        fault("w0;s0 0 1 0 0;", 6);
        fault("w0;s0 1 1 0 0;", 6);
        fault("w0;w0;s2 1 1 0 0;", 7);
        fault("w0;w0;s1 1 1 0 0;", 9);
        fault("w0;w0;s1 2 1 0 0;", 9);
        fault("w0;w0;s0 1 0 0 0;", 11);
        fault("w0;w0;s0 1 10 0 0;", 11);
        fault("w0;w0;s0 1 1 2 0;", 13);
        fault("w0;w0;s0 1 1 0 2;", 15);
        fault("w0;s0 1 1 0 0;w0;", 6);
        fault("c0 0 1;", 1);
        fault("w0;c1 0 1;", 4);
        fault("w0;c0 21 1;", 6);
        fault("w0;c0 0 0;", 8);
        fault("w0;c0 0 21;", 8);
        fault("w0;c0 0 1;k1 0 1;", 11);
        fault("w0;c0 0 1;k0 1 1;", 13);
        fault("w0;c0 0 1;k0 0 61;", 15);
        fault("d0 1 1;", 1);
        fault("w0;w0;d2 0 1;", 7);
        fault("w0;w0;d0 2 1;", 9);
        fault("w0;w0;d1 1 1;", 9);
        fault("w0;w0;d0 0 1;", 9);
        fault("w0;w0;d0 1 61;", 11);
        fault("w0;w0;d0 1 99;", 11);
    }

    private static void faultChangesNothing() {
        WellKnots x = Checks.told("w1;w0;s0 1 4 1 1;c0 5 9;k0 1 30;d0 1 7;");
        x.hears(0, 0, 1, 1);
        x.fills(0, 1);
        x.keep(1);
        x.fills(0, 2);
        Checks.due("fault", Checks.tell(x, "w0;w0;w0;s0 2 9 0 2;c2 1 1;k0 0 8;d2 0 3;x"), -10 - 41);
        Checks.due("text stays", x.count(5), 42);
        Checks.due("wells stay", x.count(0), 2);
        Checks.due("REFUSES stays", x.well(0, 0), 1);
        Checks.due("HEAT stays", x.stage(0, 2), 4);
        Checks.due("ends stay", x.stage(0, 1), 1);
        Checks.due("AT stays", x.caravan(0, 0), 0);
        Checks.due("CUPS stay", x.caravan(0, 1), 8);
        Checks.due("BEARS stays", x.caravan(0, 2), 9);
        Checks.due("KNOTS stay", x.now(2), 33);
        Checks.due("DUES stay", x.now(3), 7);
        Checks.due("HEARD stays", x.count(3), 1);
        Checks.due("UNDONE stays", x.count(4), 2);
        Checks.due("image stays", x.back(1), 0);
        Checks.due("image is as it was", x.caravan(0, 1), 6);
        Checks.due("mended", Checks.tell(x, "w0;"), 1);
        Checks.due("nothing of the faulty one", x.count(1) + x.count(2) + x.now(2) + x.now(3), 0);
    }

    private static void stage() {
        WellKnots x = Checks.told("w0;w0;w0;s2 1 9 0 0;s0 2 1 1 1;");
        int[][] due = {{2, 1, 9, 0, 0}, {0, 2, 1, 1, 1}};
        for (int s = 0; s < 2; s++) {
            for (int what = 0; what < 5; what++) {
                Checks.due("stage(" + s + ", " + what + ")", x.stage(s, what), due[s][what]);
            }
            Checks.due("stage what -1", x.stage(s, -1), -1);
            Checks.due("stage what 5", x.stage(s, 5), -1);
        }
        Checks.due("stage(-1)", x.stage(-1, 0), -1);
        Checks.due("stage(2)", x.stage(2, 0), -1);
        Checks.due("stage(8)", x.stage(8, 0), -1);
    }

    private static void caravan() {
        WellKnots x = Checks.told("w0;w0;s0 1 6 0 0;c1 20 5;c0 0 20;k0 0 7;k0 1 8;k1 0 3;");
        int[][] due = {{1, 20, 5, 0, 1, 15}, {0, 0, 20, 0, 1, 3}};
        for (int c = 0; c < 2; c++) {
            for (int what = 0; what < 6; what++) {
                Checks.due("caravan(" + c + ", " + what + ")", x.caravan(c, what), due[c][what]);
            }
            Checks.due("caravan what -1", x.caravan(c, -1), -1);
            Checks.due("caravan what 6", x.caravan(c, 6), -1);
        }
        Checks.due("caravan(-1)", x.caravan(-1, 0), -1);
        Checks.due("caravan(2)", x.caravan(2, 0), -1);
        Checks.due("caravan(4)", x.caravan(4, 0), -1);
        x.goes(1, 0, 0);
        Checks.due("AT the other end", x.caravan(1, 0), 1);
        Checks.due("DRY", x.caravan(1, 3), 6);
        x.goes(0, 0, 0);
        Checks.due("dead: AT", x.caravan(0, 0), 0);
        Checks.due("dead: CUPS", x.caravan(0, 1), 20);
        Checks.due("dead: BEARS", x.caravan(0, 2), 5);
        Checks.due("dead: DRY", x.caravan(0, 3), 6);
        Checks.due("dead: lives", x.caravan(0, 4), 0);
        Checks.due("dead: KNOTS", x.caravan(0, 5), 0);
    }

    private static void well() {
        WellKnots x = Checks.told("w1;w0;w0;c0 0 1;c1 0 1;k0 0 5;k1 0 6;k1 2 9;d0 1 4;d0 2 3;d1 0 10;d2 1 1;");
        int[][] due = {{1, 11, 7, 3}, {0, 0, 10, -5}, {0, 9, 1, 2}};
        for (int w = 0; w < 3; w++) {
            for (int what = 0; what < 4; what++) {
                Checks.due("well(" + w + ", " + what + ")", x.well(w, what), due[w][what]);
            }
            Checks.due("well what -1", x.well(w, -1), -1000000);
            Checks.due("well what 4", x.well(w, 4), -1000000);
        }
        Checks.due("well(-1)", x.well(-1, 0), -1000000);
        Checks.due("well(3)", x.well(3, 0), -1000000);
        Checks.due("well(6)", x.well(6, 0), -1000000);
    }

    private static void knotsAndDues() {
        WellKnots x = Checks.told("w0;w0;w0;c0 0 1;c0 0 1;k0 2 11;k1 0 12;d0 1 13;d1 0 14;d2 1 15;");
        int[][] knots = {{0, 0, 11}, {12, 0, 0}};
        int[][] dues = {{-1, 13, 0}, {14, -1, 0}, {0, 15, -1}};
        for (int w = 0; w < 3; w++) {
            for (int c = 0; c < 2; c++) {
                Checks.due("knots(" + c + ", " + w + ")", x.knots(c, w), knots[c][w]);
            }
            for (int v = 0; v < 3; v++) {
                Checks.due("dues(" + w + ", " + v + ")", x.dues(w, v), dues[w][v]);
            }
        }
        Checks.due("knots(-1, 0)", x.knots(-1, 0), -1);
        Checks.due("knots(2, 0)", x.knots(2, 0), -1);
        Checks.due("knots(0, -1)", x.knots(0, -1), -1);
        Checks.due("knots(0, 3)", x.knots(0, 3), -1);
        Checks.due("dues(-1, 0)", x.dues(-1, 0), -1);
        Checks.due("dues(0, -1)", x.dues(0, -1), -1);
        Checks.due("dues(3, 0)", x.dues(3, 0), -1);
        Checks.due("dues(0, 3)", x.dues(0, 3), -1);
    }

    private static void count() {
        WellKnots x = Checks.told("w0;w0;w0;s0 1 1 0 0;s0 1 1 0 0;c0 0 1;");
        x.hears(0, 0, 0, 0);
        x.hears(0, 0, 0, 0);
        x.hears(0, 0, 0, 0);
        x.hears(0, 0, 0, 0);
        for (int n = 0; n < 5; n++) {
            x.fills(0, 1);
        }
        Checks.type(x, "w0;w0;");
        int[] due = {3, 2, 1, 4, 5, 6};
        for (int what = 0; what < 6; what++) {
            Checks.due("count(" + what + ")", x.count(what), due[what]);
        }
        Checks.due("count(-1)", x.count(-1), -1);
        Checks.due("count(6)", x.count(6), -1);
    }
}

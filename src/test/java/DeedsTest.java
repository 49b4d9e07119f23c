/** Promises 10 to 16: what is done and undone, and how all things stand. */
public final class DeedsTest {
    public static void main(String[] args) {
        goesByDay();
        goesByNight();
        goesRefused();
        goesAndDies();
        drinks();
        fills();
        hands();
        strikes();
        undoesEachDeed();
        undoesTen();
        refusedDeedsLeaveNothingToUndo();
        nowSums();
        settle();
        salt();
        Checks.end("DeedsTest");
    }

    private static void goesByDay() {
        WellKnots x = Checks.told("w1;w1;w0;s0 1 7 0 2;s1 2 5 0 2;c0 9 20;k0 2 9;k0 0 30;");
        Checks.due("goes with 3 cups", x.goes(0, 0, 3), 1);
        Checks.due("CUPS", x.caravan(0, 1), 6);
        Checks.due("AT", x.caravan(0, 0), 1);
        Checks.due("DRY", x.caravan(0, 3), 4);
        Checks.due("paid by THIRST", x.knots(0, 2), 5);
        Checks.due("others stay", x.knots(0, 0), 30);
        Checks.due("goes back with all its HEAT drunk", x.goes(0, 0, 6), 1);
        Checks.due("AT", x.caravan(0, 0), 0);
        Checks.due("paid", x.knots(0, 2), 4);
        Checks.due("no CUPS", x.caravan(0, 1), 0);
        Checks.due("goes dry", x.goes(0, 0, 0), 1);
        Checks.due("paid 0 at least", x.knots(0, 2), 0);
        Checks.due("a stage from its first end", x.goes(0, 1, 0), 1);
        Checks.due("AT", x.caravan(0, 0), 2);
        Checks.due("DRY", x.caravan(0, 3), 17);
        Checks.due("no SAND", x.now(0), 0);
    }

    private static void goesByNight() {
        WellKnots x = Checks.told("w0;w1;s0 1 7 1 0;s0 1 7 1 1;s0 1 7 0 1;c0 9 20;c0 9 20;k0 0 20;k0 1 20;k1 1 20;");
        Checks.due("goes by night", x.goes(0, 0, 0), 1);
        Checks.due("half, cut", x.knots(0, 0), 17);
        Checks.due("DRY by all of it", x.caravan(0, 3), 7);
        Checks.due("goes by night with 6", x.goes(0, 0, 6), 1);
        Checks.due("half of 1 is none", x.knots(0, 0), 17);
        Checks.due("a lender that refuses", x.goes(0, 1, 0), 1);
        Checks.due("nothing paid", x.knots(0, 1), 20);
        Checks.due("it takes a day's thirst", x.goes(1, 2, 0), 1);
        Checks.due("paid", x.knots(1, 1), 13);
    }

    private static void goesRefused() {
        WellKnots x = Checks.told("w0;w0;w0;s0 1 4 0 0;s1 2 9 0 0;c0 2 3;c0 20 3;");
        Checks.due("no caravan -1", x.goes(-1, 0, 0), -1);
        Checks.due("no caravan 2", x.goes(2, 0, 0), -1);
        Checks.due("no stage -1", x.goes(0, -1, 0), -1);
        Checks.due("no stage 2", x.goes(0, 2, 0), -1);
        Checks.due("d -1", x.goes(0, 0, -1), -1);
        Checks.due("d 10", x.goes(0, 0, 10), -1);
        Checks.due("BAD ahead of STATE", x.goes(0, 1, 10), -1);
        Checks.due("not at an end", x.goes(0, 1, 0), -2);
        Checks.due("not so many cups", x.goes(0, 0, 3), -2);
        Checks.due("more than HEAT", x.goes(1, 0, 5), -2);
        Checks.due("nothing to be undone", x.count(4), 0);
        Checks.due("just HEAT", x.goes(1, 0, 4), 1);
        Checks.due("just its cups", x.goes(0, 0, 2), 1);
        Checks.due("it dies", x.goes(0, 0, 0), 0);
        Checks.due("it is dead", x.goes(0, 0, 0), -2);
        Checks.due("d 9 by HEAT 9", x.goes(1, 1, 9), 1);
    }

    private static void goesAndDies() {
        WellKnots x = Checks.told("w0;w0;s0 1 9 0 0;c0 0 8;c0 1 8;c0 0 9;k0 0 50;k0 1 33;k1 0 3;k2 1 4;");
        Checks.due("dies", x.goes(0, 0, 0), 0);
        Checks.due("its KNOTS are SAND", x.now(0), 83);
        Checks.due("it has none", x.knots(0, 0) + x.knots(0, 1), 0);
        Checks.due("DRY", x.caravan(0, 3), 9);
        Checks.due("AT", x.caravan(0, 0), 1);
        Checks.due("just what it BEARS", x.goes(1, 0, 1), 1);
        Checks.due("DRY by what it BEARS", x.caravan(1, 3), 8);
        Checks.due("another one", x.goes(2, 0, 0), 1);
        Checks.due("who lives", x.now(1), 6);
        Checks.due("and dies on", x.goes(2, 0, 0), 0);
        Checks.due("SAND", x.now(0), 87);
        Checks.due("who lives then", x.now(1), 2);
        Checks.due("dead: drinks", x.drinks(0, 1), -2);
        Checks.due("dead: fills", x.fills(0, 1), -2);
        Checks.due("dead: hands", x.hands(0, 1, 0, 1), -2);
        Checks.due("to a dead one", x.hands(1, 0, 0, 1), -2);
        x.fills(1, 9);
        Checks.due("to a dead one, of what it has", x.hands(1, 0, 1, 1), -2);
        Checks.due("from a dead one", x.hands(0, 1, 1, 1), -2);
        Checks.due("dead: pass", x.pass(0, 1, 0), -2);
        Checks.due("dead: safe", x.safe(0, 0, 0, 0, 0, 0), -2);
        Checks.due("dead: drinks, bad", x.drinks(0, 0), -1);
        Checks.due("dead: pass, bad", x.pass(0, 1, 3), -1);
        Checks.due("dead: safe, bad", x.safe(0, 0, 0, 7, 0, 0), -1);
    }

    private static void drinks() {
        WellKnots x = Checks.told("w0;w0;s0 1 9 1 0;c0 20 20;c0 20 20;k0 1 60;k1 1 60;");
        Checks.due("not DRY", x.drinks(0, 1), -2);
        x.goes(0, 0, 0);
        Checks.due("n 0", x.drinks(0, 0), -1);
        Checks.due("n 21", x.drinks(0, 21), -1);
        Checks.due("n -1", x.drinks(0, -1), -1);
        Checks.due("c -1", x.drinks(-1, 1), -1);
        Checks.due("c 2", x.drinks(2, 1), -1);
        Checks.due("more than DRY", x.drinks(0, 10), -2);
        Checks.due("n 20 is a number as told", x.drinks(0, 20), -2);
        Checks.due("drinks", x.drinks(0, 4), 64);
        Checks.due("DRY", x.caravan(0, 3), 5);
        Checks.due("CUPS stay", x.caravan(0, 1), 20);
        Checks.due("drinks all", x.drinks(0, 5), 69);
        Checks.due("DRY no more", x.caravan(0, 3), 0);
        x.goes(1, 0, 0);
        Checks.due("handed", x.hands(0, 1, 1, 35), 95);
        Checks.due("above 99", x.drinks(1, 5), -2);
        Checks.due("99", x.drinks(1, 4), 99);
        Checks.due("above 99 by one", x.drinks(1, 1), -2);
        Checks.due("DRY stays", x.caravan(1, 3), 5);
    }

    private static void fills() {
        WellKnots x = Checks.told("w0;w0;s0 1 9 1 0;c1 15 20;c1 0 20;k0 1 60;k1 1 60;");
        Checks.due("n 0", x.fills(0, 0), -1);
        Checks.due("n 21", x.fills(0, 21), -1);
        Checks.due("c -1", x.fills(-1, 1), -1);
        Checks.due("c 2", x.fills(2, 1), -1);
        Checks.due("CUPS above 20", x.fills(0, 6), -2);
        Checks.due("CUPS 20", x.fills(0, 5), 65);
        Checks.due("CUPS", x.caravan(0, 1), 20);
        Checks.due("DRY stays", x.caravan(0, 3), 0);
        Checks.due("CUPS 21", x.fills(0, 1), -2);
        Checks.due("KNOTS elsewhere", x.knots(0, 0), 0);
        x.hands(0, 1, 1, 30);
        Checks.due("KNOTS above 99", x.fills(1, 10), -2);
        Checks.due("KNOTS 99", x.fills(1, 9), 99);
        Checks.due("CUPS of it", x.caravan(1, 1), 9);
        WellKnots y = Checks.told("w0;c0 0 1;");
        Checks.due("n 20", y.fills(0, 20), 20);
    }

    private static void hands() {
        WellKnots x = Checks.told("w0;w0;c0 0 1;c1 0 1;k0 0 60;k1 0 45;k0 1 7;");
        Checks.due("c -1", x.hands(-1, 1, 0, 1), -1);
        Checks.due("c 2", x.hands(2, 1, 0, 1), -1);
        Checks.due("e -1", x.hands(0, -1, 0, 1), -1);
        Checks.due("e 2", x.hands(0, 2, 0, 1), -1);
        Checks.due("alike", x.hands(0, 0, 0, 1), -1);
        Checks.due("w -1", x.hands(0, 1, -1, 1), -1);
        Checks.due("w 2", x.hands(0, 1, 2, 1), -1);
        Checks.due("n 0", x.hands(0, 1, 0, 0), -1);
        Checks.due("n 100", x.hands(0, 1, 0, 100), -1);
        Checks.due("n 99 is a number as told", x.hands(0, 1, 0, 99), -2);
        Checks.due("not so many", x.hands(0, 1, 1, 8), -2);
        Checks.due("above 99", x.hands(0, 1, 0, 55), -2);
        Checks.due("99", x.hands(0, 1, 0, 54), 99);
        Checks.due("left", x.knots(0, 0), 6);
        Checks.due("all", x.hands(0, 1, 1, 7), 7);
        Checks.due("none left", x.knots(0, 1), 0);
        Checks.due("n 99", x.hands(1, 0, 0, 93), 99);
        Checks.due("KNOTS of all", x.now(2), 112);
    }

    private static void strikes() {
        WellKnots x = Checks.told("w0;w0;w0;w0;d0 1 5;d1 2 7;d2 0 6;d0 3 9;d3 0 4;");
        Checks.due("the round of three", x.strikes(), 15);
        Checks.due("0 to 1", x.dues(0, 1), 0);
        Checks.due("1 to 2", x.dues(1, 2), 2);
        Checks.due("2 to 0", x.dues(2, 0), 1);
        Checks.due("others stay", x.now(3), 3 + 13);
        Checks.due("then that of two", x.strikes(), 8);
        Checks.due("0 to 3", x.dues(0, 3), 5);
        Checks.due("3 to 0", x.dues(3, 0), 0);
        Checks.due("no more", x.strikes(), -2);
        Checks.due("may be undone", x.count(4), 2);
    }

    private static void undoesEachDeed() {
        WellKnots x = Checks.told("w0;w0;s0 1 9 0 0;c0 3 9;c0 0 9;k0 0 20;k1 0 5;d0 1 5;d1 0 3;");
        x.goes(0, 0, 1);
        x.drinks(0, 2);
        x.fills(0, 4);
        x.hands(0, 1, 0, 3);
        x.strikes();
        x.goes(0, 0, 0);
        Checks.due("it died", x.now(1), 2);
        Checks.due("SAND", x.now(0), 15);
        Checks.due("undo a death", x.undo(), 5);
        Checks.due("lives", x.now(1), 3);
        Checks.due("SAND", x.now(0), 0);
        Checks.due("KNOTS", x.knots(0, 0), 9);
        Checks.due("KNOTS there", x.knots(0, 1), 6);
        Checks.due("AT", x.caravan(0, 0), 1);
        Checks.due("DUES ahead", x.now(3), 2);
        Checks.due("undo strikes", x.undo(), 4);
        Checks.due("DUES", x.now(3), 8);
        Checks.due("undo hands", x.undo(), 3);
        Checks.due("KNOTS", x.knots(0, 0), 12);
        Checks.due("KNOTS of the other", x.knots(1, 0), 5);
        Checks.due("undo fills", x.undo(), 2);
        Checks.due("CUPS", x.caravan(0, 1), 2);
        Checks.due("KNOTS there", x.knots(0, 1), 2);
        Checks.due("undo drinks", x.undo(), 1);
        Checks.due("DRY", x.caravan(0, 3), 8);
        Checks.due("KNOTS there", x.knots(0, 1), 0);
        Checks.due("undo goes", x.undo(), 0);
        Checks.due("AT", x.caravan(0, 0), 0);
        Checks.due("CUPS", x.caravan(0, 1), 3);
        Checks.due("DRY", x.caravan(0, 3), 0);
        Checks.due("KNOTS", x.knots(0, 0), 20);
        Checks.due("undo none", x.undo(), -2);
    }

    private static void undoesTen() {
        WellKnots x = Checks.told("w0;c0 0 1;");
        for (int n = 1; n <= 13; n++) {
            x.fills(0, 1);
            Checks.due("may be undone", x.count(4), Math.min(n, 10));
        }
        for (int left = 9; left >= 0; left--) {
            Checks.due("undo", x.undo(), left);
            Checks.due("CUPS", x.caravan(0, 1), 3 + left);
        }
        Checks.due("older ones are lost", x.undo(), -2);
        Checks.due("CUPS", x.caravan(0, 1), 3);
        x.fills(0, 2);
        Checks.due("one more deed", x.undo(), 0);
        Checks.due("CUPS", x.caravan(0, 1), 3);
    }

    private static void refusedDeedsLeaveNothingToUndo() {
        WellKnots x = Checks.told("w0;w0;s0 1 3 0 0;c0 20 3;c0 20 3;");
        x.goes(0, 0, 4);
        x.drinks(0, 1);
        x.fills(0, 1);
        x.hands(0, 1, 0, 1);
        x.strikes();
        x.hears(0, 0, 1, 1);
        x.keep(0);
        x.pass(0, 1, 0);
        Checks.due("none", x.count(4), 0);
        Checks.due("undo", x.undo(), -2);
        x.goes(0, 0, 3);
        x.hears(0, 0, 0, 0);
        Checks.due("undo", x.undo(), 0);
        Checks.due("what was HEARD is no deed", x.count(3), 2);
    }

    private static void nowSums() {
        WellKnots x = Checks.told("w0;w0;w0;c0 0 1;c1 0 1;c2 0 1;k0 0 1;k1 1 20;k2 2 30;k2 0 4;d0 1 5;d2 0 60;");
        Checks.due("who lives", x.now(1), 7);
        Checks.due("KNOTS of all", x.now(2), 55);
        Checks.due("DUES of all", x.now(3), 65);
        Checks.due("now(-1)", x.now(-1), -1);
        Checks.due("now(6)", x.now(6), -1);
    }

    private static void settle() {
        settleDue("w0;", 0);
        settleDue("w0;w0;d0 1 5;", 1);
        settleDue("w0;w0;d0 1 5;d1 0 5;", 0);
        settleDue("w0;w0;w0;d0 1 5;d1 2 5;", 1);
        settleDue("w0;w0;w0;d0 1 5;d1 2 4;", 2);
        settleDue("w0;w0;w0;w0;d0 1 5;d2 3 5;", 2);
        settleDue("w0;w0;w0;w0;d0 1 5;d2 3 4;d0 3 1;", 3);
        settleDue("w0;w0;w0;w0;w0;w0;d0 1 5;d2 3 4;d4 5 9;", 3);
        settleDue("w0;w0;w0;w0;w0;w0;d0 1 1;d0 2 2;d0 3 4;d0 4 8;d0 5 16;", 5);
        settleDue("w0;w0;w0;w0;w0;w0;d0 1 3;d0 2 4;d3 4 5;d3 5 6;", 4);
    }

    private static void settleDue(String text, int due) {
        Checks.due("SETTLE of " + text, Checks.told(text).now(4), due);
    }

    private static void salt() {
        saltDue("w0;w0;", 0);
        saltDue("w0;w0;s1 0 1 0 0;", 1);
        saltDue("w0;w0;w0;s0 1 1 0 0;s1 2 1 0 0;", 2);
        saltDue("w0;w0;w0;s0 1 1 0 0;s1 2 1 0 0;s2 0 1 0 0;", 3);
        saltDue("w0;w0;w0;w0;s0 1 1 0 0;s2 3 1 0 0;", 5);
        saltDue("w0;w0;w0;w0;s0 3 1 0 0;s1 3 1 0 0;s2 3 1 0 0;", 8);
        saltDue("w0;w0;w0;w0;w0;w0;s0 1 1 0 0;s1 2 1 0 0;s2 3 1 0 0;s3 4 1 0 0;s4 5 1 0 0;s5 0 1 0 0;", 21);
        saltDue("w0;w0;w0;w0;s0 1 1 0 0;s0 2 1 0 0;s0 3 1 0 0;s1 2 1 0 0;s1 3 1 0 0;s2 3 1 0 0;", 7);
    }

    private static void saltDue(String text, int due) {
        Checks.due("SALT of " + text, Checks.told(text).now(5), due);
    }
}

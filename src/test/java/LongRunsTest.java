import java.util.function.Consumer;

/**
 * For each promise a run as long as the document allows: 512 calls on one object, the last of them held as the first is.
 * What is due is counted here in plain numbers, without the model.
 */
public final class LongRunsTest {
    private static final int CALLS = 512;
    private static final int BAD = -1, STATE = -2, FULL = -3, NONE = -9, NO = -1000000;
    private static final String PAIRS = "w0;w0;w0;w0;w0;w0;d0 1 5;d1 0 4;d2 3 8;d3 2 9;d4 5 1;d5 4 60;";

    private static int runs = 0;

    /** One object and how many calls it has had. */
    private static final class Run {
        final WellKnots x = new WellKnots();
        private final String promise;
        private int calls;
        private String last;

        Run(String promise) {
            this.promise = promise;
        }

        void due(String call, long got, long want) {
            calls++;
            last = call;
            Checks.due(promise + ", call " + calls + ": " + call, got, want);
        }

        int left() {
            return CALLS - calls;
        }

        /** Calls that change nothing, so many that the run ends with the call it is about. */
        void idle(int n) {
            for (int i = 0; i < n; i++) {
                due("count", x.count(4), 0);
            }
        }

        void type(String text) {
            for (int i = 0; i < text.length(); i++) {
                due("type", x.type(text.charAt(i)), i + 1);
            }
        }

        void tell(String text) {
            type(text);
            due("road", x.road(), text.chars().filter(c -> c == ';').count());
        }
    }

    public static void main(String[] args) {
        theRoad();
        whatIsDone();
        whatCouldBe();
        stonesKindsImages();
        Checks.due("runs", runs, 31);
        Checks.end("LongRunsTest");
    }

    /** A run that makes one call more, or one fewer, than an object has, or ends with another call, is a fault of the test. */
    private static void run(String promise, Consumer<Run> calls) {
        Run r = new Run(promise);
        calls.accept(r);
        Checks.due(promise + ": calls", r.calls, CALLS);
        String call = promise.split("[:,] ")[1];
        Checks.due(promise + ": ends with " + r.last, call.equals("A new object") || r.last.startsWith(call) ? 1 : 0, 1);
        runs++;
    }

    private static void theRoad() {
        run("1: A new object", LongRunsTest::nothingTold);
        run("2: type", LongRunsTest::typesOn);
        run("2: type, again", LongRunsTest::typesAnew);
        run("3: clear", LongRunsTest::clears);
        run("4: road, a fault", LongRunsTest::roadsWithFault);
        run("4: road", LongRunsTest::roadsAnew);
        run("5: stage", LongRunsTest::stagesStay);
        run("6: caravan", LongRunsTest::caravanWalks);
        run("7: well", LongRunsTest::wellFills);
        run("8: knots", LongRunsTest::knotsWander);
        run("9: dues", LongRunsTest::duesStruck);
    }

    private static void whatIsDone() {
        run("10: goes", LongRunsTest::goesAndDies);
        run("11: drinks", LongRunsTest::drinksOn);
        run("12: fills", LongRunsTest::fillsOn);
        run("13: hands", LongRunsTest::handsOn);
        run("14: strikes", LongRunsTest::strikesOn);
        run("15: undo", LongRunsTest::undoesOn);
        run("16: now", LongRunsTest::nowByDeaths);
        run("16: now, by few wells", LongRunsTest::nowByFewWells);
    }

    private static void whatCouldBe() {
        run("17: pass", LongRunsTest::passAlongALine);
        run("18: ring", LongRunsTest::ringsOneByOne);
        run("18: ring, of all wells", LongRunsTest::ringOfAllWells);
        run("19: safe", LongRunsTest::safeByDry);
    }

    private static void stonesKindsImages() {
        run("20: hears", LongRunsTest::hearsOn);
        run("21: forget", LongRunsTest::forgets);
        run("22: stones", LongRunsTest::stonesOn);
        run("23: mark", LongRunsTest::marksOn);
        run("24: keep", LongRunsTest::keepsOn);
        run("25: back", LongRunsTest::backOn);
        run("26: count", LongRunsTest::countsOn);
        run("27: trace", LongRunsTest::tracesOn);
    }

    // ---- the road

    private static void nothingTold(Run r) {
        WellKnots x = r.x;
        for (int i = 0; r.left() > 0; i++) {
            switch (i % 24) {
                case 0: r.due("clear", x.clear(), 0); break;
                case 1: r.due("stage", x.stage(0, i % 5), BAD); break;
                case 2: r.due("caravan", x.caravan(0, i % 6), BAD); break;
                case 3: r.due("well", x.well(0, i % 4), NO); break;
                case 4: r.due("knots", x.knots(0, 0), BAD); break;
                case 5: r.due("dues", x.dues(0, 1), BAD); break;
                case 6: r.due("goes", x.goes(0, 0, 0), BAD); break;
                case 7: r.due("drinks", x.drinks(0, 1), BAD); break;
                case 8: r.due("fills", x.fills(0, 1), BAD); break;
                case 9: r.due("hands", x.hands(0, 1, 0, 1), BAD); break;
                case 10: r.due("strikes", x.strikes(), STATE); break;
                case 11: r.due("undo", x.undo(), STATE); break;
                case 12: r.due("now", x.now(i / 24 % 6), 0); break;
                case 13: r.due("pass", x.pass(0, 0, i % 3), BAD); break;
                case 14: r.due("ring", x.ring(i / 24 % 8 - 2), NONE); break;
                case 15: r.due("safe", x.safe(0, 0, 0, 0, 0, 0), BAD); break;
                case 16: r.due("hears", x.hears(0, 0, 0, 0), BAD); break;
                case 17: r.due("forget", x.forget(), 0); break;
                case 18: r.due("stones", x.stones(i / 24 % 2), 0); break;
                case 19: r.due("mark", x.mark(i / 24 % 6, 0), NO); break;
                case 20: r.due("back", x.back(i / 24 % 2), STATE); break;
                case 21: r.due("count", x.count(i / 24 % 6), 0); break;
                case 22: r.due("trace", x.trace(), 0); break;
                default: r.due("road", x.road(), 0);
            }
        }
    }

    private static void typesOn(Run r) {
        for (int n = 1; r.left() > 0; n++) {
            if (n > 200 && n % 2 == 1) {
                r.due("type", r.x.type(n % 4 == 1 ? 256 : -1), BAD);
            } else {
                r.due("type", r.x.type(n * 7 & 255), n <= 200 ? n : FULL);
            }
        }
    }

    private static void typesAnew(Run r) {
        for (int had = 0; r.left() > 0; had++) {
            if (had == 201) {
                r.due("clear", r.x.clear(), 200);
                had = -1;
            } else {
                r.due("type", r.x.type(255 - had), had < 200 ? had + 1 : FULL);
            }
        }
    }

    /** By 0, 1, .. 30 bytes, each time with the call itself: 496 calls; by 15 then. */
    private static void clears(Run r) {
        for (int bytes = 0; bytes <= 31; bytes++) {
            int n = bytes <= 30 ? bytes : 15;
            for (int i = 1; i <= n; i++) {
                r.due("type", r.x.type(';'), i);
            }
            r.due("clear", r.x.clear(), n);
        }
    }

    /** The text ends too early, a byte later each time, up to 200 bytes. */
    private static void roadsWithFault(Run r) {
        for (int n = 1; r.left() > 0; n++) {
            r.due("type", r.x.type(n == 1 ? 'w' : ' '), n <= 200 ? n : FULL);
            r.due("road", r.x.road(), -10 - Math.min(n, 200));
        }
    }

    private static void roadsAnew(Run r) {
        for (int i = 0; r.left() >= 6; i++) {
            r.tell(i % 2 == 0 ? "w0;" : "w1;");
            r.due("well", r.x.well(0, 0), i % 2);
            r.due("count", r.x.count(5), 0);
        }
        r.due("count", r.x.count(0), 1);
        r.due("road", r.x.road(), 0);
    }

    private static void stagesStay(Run r) {
        int[][] told = {{0, 1, 9, 1, 5}, {1, 0, 1, 0, 0}, {2, 3, 8, 0, 4}, {5, 4, 2, 1, 1}, {3, 0, 7, 1, 2}, {4, 2, 3, 0, 3},
            {1, 5, 6, 1, 4}, {0, 1, 9, 1, 5}};
        StringBuilder text = new StringBuilder("w0;w1;w0;w1;w0;w1;c1 20 20;");
        for (int[] s : told) {
            text.append("s").append(s[0]).append(' ').append(s[1]).append(' ').append(s[2]).append(' ').append(s[3])
                .append(' ').append(s[4]).append(';');
        }
        r.tell(text.toString());
        r.due("goes", r.x.goes(0, 1, 0), 1);
        r.due("fills", r.x.fills(0, 1), STATE);
        r.due("undo", r.x.undo(), 0);
        for (int i = 0; r.left() > 0; i++) {
            int s = i / 5 % 8;
            r.due("stage " + s + ", " + i % 5, r.x.stage(s, i % 5), told[s][i % 5]);
        }
    }

    /** To and fro by a heat of 1 for well 0, with a drink behind each stage. */
    private static void caravanWalks(Run r) {
        r.tell("w0;w0;s0 1 1 0 0;c0 7 20;");
        int place = 0;
        int[] knots = new int[2];
        while (r.left() >= 8) {
            r.due("goes", r.x.goes(0, 0, 0), 1);
            place = 1 - place;
            knots[0] = Math.max(0, knots[0] - 1);
            int[] due = {place, 7, 20, 1, 1, knots[0] + knots[1]};
            for (int what = 0; what < 6; what++) {
                r.due("caravan " + what, r.x.caravan(0, what), due[what]);
            }
            knots[place]++;
            r.due("drinks", r.x.drinks(0, 1), knots[place]);
        }
        while (r.left() > 0) {
            r.due("caravan 5", r.x.caravan(0, 5), knots[0] + knots[1]);
        }
    }

    private static void wellFills(Run r) {
        r.tell("w0;w1;c1 0 1;d0 1 7;d1 0 60;");
        for (int i = 0; r.left() >= 5; i++) {
            boolean filling = i / 10 % 2 == 0;
            int cups = filling ? i % 10 + 1 : 9 - i % 10;
            r.due(filling ? "fills" : "undo", filling ? r.x.fills(0, 1) : r.x.undo(), cups);
            int w = i % 2;
            r.due("well 0", r.x.well(w, 0), w);
            r.due("well 1", r.x.well(w, 1), w == 1 ? cups : 0);
            r.due("well 2", r.x.well(w, 2), w == 0 ? 7 : 60);
            r.due("well 3", r.x.well(w, 3), w == 0 ? 53 : -53);
        }
        while (r.left() > 0) {
            r.due("well 3", r.x.well(0, 3), 53);
        }
    }

    private static void knotsWander(Run r) {
        r.tell("w0;w0;c0 0 1;c1 0 1;k0 1 60;");
        for (int i = 0; r.left() >= 3; i++) {
            boolean there = i / 60 % 2 == 0;
            int handed = there ? i % 60 + 1 : 59 - i % 60;
            int c = there ? 0 : 1;
            r.due("hands", r.x.hands(c, 1 - c, 1, 1), there ? handed : 60 - handed);
            r.due("knots", r.x.knots(0, 1), 60 - handed);
            r.due("knots", r.x.knots(1, 1), handed);
        }
        while (r.left() > 0) {
            r.due("knots", r.x.knots(r.left() % 2, 0), 0);
        }
    }

    private static void duesStruck(Run r) {
        r.tell("w0;w0;w0;d0 1 9;d1 2 8;d2 0 10;d1 0 3;");
        int[][] whole = {{BAD, 9, 0}, {3, BAD, 8}, {10, 0, BAD}};
        int[][] struck = {{BAD, 1, 0}, {3, BAD, 0}, {2, 0, BAD}};
        for (int i = 0; r.left() > 0; i++) {
            int step = i % 20;
            if (step == 0) {
                r.due("strikes", r.x.strikes(), 24);
            } else if (step == 10) {
                r.due("undo", r.x.undo(), 0);
            } else {
                int w = (step % 10 - 1) / 3;
                int v = (step % 10 - 1) % 3;
                r.due("dues " + w + ", " + v, r.x.dues(w, v), (step < 10 ? struck : whole)[w][v]);
            }
        }
    }

    // ---- what is done

    /** Twenty stages are borne, the next one kills; undone, twenty cups are drunk, which the way on pays for. */
    private static void goesAndDies(Run r) {
        r.tell("w0;w0;s0 1 1 0 0;c0 0 20;");
        for (int i = 0; r.left() > 0; i++) {
            int step = i % 24;
            if (step < 22) {
                r.due("goes", r.x.goes(0, 0, 0), step < 20 ? 1 : step == 20 ? 0 : STATE);
            } else if (step == 22) {
                r.due("undo", r.x.undo(), 9);
            } else {
                r.due("drinks", r.x.drinks(0, 20), 20);
            }
        }
    }

    /** Well 1 is paid by each stage; knots at well 0 grow until they are 99, and it lends no more. */
    private static void drinksOn(Run r) {
        r.tell("w0;w0;s0 1 1 0 1;c0 0 20;k0 0 60;");
        int place = 0;
        int dry = 0;
        int[] knots = {60, 0};
        while (r.left() >= 3) {
            r.due("goes", r.x.goes(0, 0, 0), 1);
            place = 1 - place;
            dry++;
            knots[1] = Math.max(0, knots[1] - 1);
            r.due("drinks too much", r.x.drinks(0, dry + 1), STATE);
            if (knots[place] + dry <= 99) {
                knots[place] += dry;
                r.due("drinks", r.x.drinks(0, dry), knots[place]);
                dry = 0;
            } else {
                r.due("drinks", r.x.drinks(0, dry), STATE);
            }
        }
        while (r.left() > 0) {
            r.due("drinks none", r.x.drinks(0, 0), BAD);
        }
        Checks.due("the run came to 99 knots", knots[0], 99);
    }

    /** A cup on each stage and one filled behind it, until knots at well 0 are 99. */
    private static void fillsOn(Run r) {
        r.tell("w0;w0;s0 1 1 0 0;c0 20 20;k0 0 35;");
        int place = 0;
        int cups = 20;
        int[] knots = {35, 0};
        while (r.left() >= 3) {
            r.due("goes", r.x.goes(0, 0, 1), 1);
            place = 1 - place;
            cups--;
            r.due("fills too much", r.x.fills(0, 21 - cups), STATE);
            if (knots[place] + 1 <= 99) {
                knots[place]++;
                cups++;
                r.due("fills", r.x.fills(0, 1), knots[place]);
            } else {
                r.due("fills", r.x.fills(0, 1), STATE);
            }
        }
        while (r.left() > 0) {
            r.due("fills none", r.x.fills(0, 0), BAD);
        }
        Checks.due("the run came to 99 knots", knots[0], 99);
    }

    /** From the first to the second until that one has 99, and back. */
    private static void handsOn(Run r) {
        r.tell("w0;c0 0 1;c0 0 1;k0 0 60;k1 0 60;");
        int[] knots = {60, 60};
        int from = 0;
        while (r.left() > 0) {
            if (knots[1 - from] == 99) {
                r.due("hands", r.x.hands(from, 1 - from, 0, 1), STATE);
                from = 1 - from;
            } else {
                knots[from]--;
                knots[1 - from]++;
                r.due("hands", r.x.hands(from, 1 - from, 0, 1), knots[1 - from]);
            }
        }
    }

    private static void strikesOn(Run r) {
        r.tell(PAIRS);
        int[] steps = {16, 8, 2, STATE};
        for (int i = 0; r.left() > 0; i++) {
            int step = i % 8;
            if (step < 4) {
                r.due("strikes", r.x.strikes(), steps[step]);
            } else {
                r.due("undo", r.x.undo(), step < 7 ? 6 - step : STATE);
            }
        }
    }

    /** Eleven deeds and ten undone: the first of them stays each time. */
    private static void undoesOn(Run r) {
        r.tell("w0;c0 0 1;c0 0 1;k0 0 60;");
        r.idle(4);
        for (int i = 0; r.left() > 0; i++) {
            int round = i / 23;
            int step = i % 23;
            if (step < 11) {
                r.due("hands", r.x.hands(0, 1, 0, 1), round + step + 1);
            } else if (step < 22) {
                r.due("undo", r.x.undo(), step < 21 ? 20 - step : STATE);
            } else {
                r.due("knots", r.x.knots(1, 0), round + 1);
            }
        }
    }

    /** Four caravans die one by one, and all of it is undone. */
    private static void nowByDeaths(Run r) {
        r.tell("w0;w0;s0 1 9 0 0;c0 0 1;c0 0 1;c0 0 1;c0 0 1;k0 0 5;k1 1 6;k2 0 7;k3 1 8;d0 1 9;");
        r.idle(1);
        int[] sand = {0, 5, 11, 18, 26};
        for (int i = 0; r.left() > 0; i++) {
            int step = i % 32;
            int dead = step / 7 + 1;
            if (step >= 28) {
                r.due("undo", r.x.undo(), 31 - step);
            } else if (step % 7 == 0) {
                r.due("goes", r.x.goes(dead - 1, 0, 0), 0);
            } else {
                int[] due = {sand[dead], 15 >> dead << dead, 26 - sand[dead], 9, 1, 1};
                int what = step % 7 - 1;
                r.due("now " + what, r.x.now(what), due[what]);
            }
        }
    }

    /** A well more each time, the last of them owing 1 to each other one: as many payments as it owes to. */
    private static void nowByFewWells(Run r) {
        for (int wells = 1; wells <= 6; wells++) {
            StringBuilder text = new StringBuilder("w0;".repeat(wells));
            for (int v = 0; v < wells - 1; v++) {
                text.append("d").append(wells - 1).append(' ').append(v).append(" 1;");
            }
            r.tell(text.toString());
            int[] due = {0, 0, 0, wells - 1, wells - 1, 0};
            for (int what = 0; what < 6; what++) {
                r.due("now " + what, r.x.now(what), due[what]);
            }
        }
        while (r.left() > 0) {
            r.due("now 4", r.x.now(4), 5);
        }
    }

    // ---- what could be

    /** Six wells in a line by heats of 3: so far as cups and what can still be borne reach. */
    private static void passAlongALine(Run r) {
        r.tell("w0;w0;w0;w0;w0;w0;s0 1 3 0 0;s1 2 3 0 0;s2 3 3 0 0;s3 4 3 0 0;s4 5 3 0 0;c0 5 9;");
        for (int i = 0; r.left() > 0; i++) {
            int step = i % 78;
            int gone = Math.min(3, step / 19);
            int drunk = Math.min(2, gone);
            if (step >= 75) {
                r.due("undo", r.x.undo(), 77 - step);
            } else if (step % 19 == 18) {
                r.due("goes", r.x.goes(0, gone, gone < 2 ? 1 : 0), 1);
            } else {
                lookAlongTheLine(r, step % 19, gone, 5 - drunk, 9 - 3 * gone + drunk);
            }
        }
    }

    private static void lookAlongTheLine(Run r, int ask, int place, int cups, int slack) {
        int w = ask / 3 % 6;
        int far = Math.abs(w - place);
        boolean alive = far * 3 <= cups + slack;
        int what = ask % 3;
        int due = what == 0 ? far : what == 1 ? Math.min(w < place ? place - 1 : place, 4) : Math.max(0, 3 - slack);
        if (what > 0 && far == 0 || !alive) {
            due = NONE;
        }
        r.due("pass to " + w + ", " + what + " from " + place, r.x.pass(0, w, what), due);
    }

    private static void ringsOneByOne(Run r) {
        r.tell(PAIRS);
        r.idle(1);
        int[][] due = {{8, 2, 2, 3, NONE, NONE, NONE, NONE, BAD}, {4, 2, 0, 1, NONE, NONE, NONE, NONE, BAD},
            {1, 2, 4, 5, NONE, NONE, NONE, NONE, BAD}, {NONE, NONE, NONE, NONE, NONE, NONE, NONE, NONE, BAD}};
        int[] worth = {16, 8, 2};
        for (int i = 0; r.left() > 0; i++) {
            int step = i % 42;
            int struck = step / 10;
            if (step >= 39) {
                r.due("undo", r.x.undo(), 41 - step);
            } else if (step % 10 == 9) {
                r.due("strikes", r.x.strikes(), worth[struck]);
            } else {
                r.due("ring " + (step % 10 - 2), r.x.ring(step % 10 - 2), due[struck][step % 10]);
            }
        }
    }

    /** Six wells by a strike of 3, which is more than the two of them that have 8. */
    private static void ringOfAllWells(Run r) {
        r.tell("w0;w0;w0;w0;w0;w0;d3 0 5;d0 5 4;d5 1 9;d1 4 3;d4 2 60;d2 3 8;d3 2 8;");
        int[] whole = {3, 6, 0, 5, 1, 4, 2, 3};
        int[] struck = {5, 2, 2, 3, NONE, NONE, NONE, NONE};
        r.idle(1);
        for (int i = 0; r.left() > 0; i++) {
            int step = i % 18;
            if (step % 9 == 8) {
                r.due(step == 8 ? "strikes" : "undo", step == 8 ? r.x.strikes() : r.x.undo(), step == 8 ? 18 : 0);
            } else {
                r.due("ring " + (step % 9 - 2), r.x.ring(step % 9 - 2), (step < 9 ? whole : struck)[step % 9]);
            }
        }
    }

    /** Dry by one more each time, up to death's edge, then drunk away. */
    private static void safeByDry(Run r) {
        r.tell("w0;w0;s0 1 1 0 1;c0 0 20;k0 0 9;");
        int dry = 0;
        int knots = 9;
        for (int i = 0; r.left() > 0; i++) {
            if (i % 9 < 8) {
                int n = i % 7;
                int h = i % 4;
                int more = i % 10;
                int x = i % 11;
                r.due("safe by " + dry, r.x.safe(0, h, more, n, x, i % 2), safe(20 - dry, new int[] {h, more, n, x}, i % 2));
            } else if (dry < 20) {
                r.due("goes", r.x.goes(0, 0, 0), 1);
                dry++;
            } else {
                knots += 20;
                r.due("drinks", r.x.drinks(0, 20), knots);
                dry = 0;
            }
        }
    }

    /** By how many of the stages are the hotter ones: so many ways, each of the same weight. */
    private static int safe(int slack, int[] by, int what) {
        long upper = 0;
        long ways = 1;
        for (int hot = 0; hot <= by[2]; hot++) {
            if (by[2] * by[0] + hot * by[1] <= slack) {
                upper += ways * power(by[3], hot) * power(10 - by[3], by[2] - hot);
            }
            ways = ways * (by[2] - hot) / (hot + 1);
        }
        long lower = power(10, by[2]);
        long a = lower;
        long b = upper;
        while (b != 0) {
            long rest = a % b;
            a = b;
            b = rest;
        }
        return (int) ((what == 0 ? upper : lower) / a);
    }

    private static long power(long of, int n) {
        return n == 0 ? 1 : of * power(of, n - 1);
    }

    // ---- stones, kinds, images

    private static void hearsOn(Run r) {
        r.tell("w0;w0;s0 1 5 0 0;c0 0 1;");
        for (int i = 0; r.left() > 0; i++) {
            int step = i % 10;
            if (step < 7) {
                r.due("hears", r.x.hears(0, 0, i % 10, i / 10 % 10), step < 6 ? step + 1 : FULL);
            } else if (step == 7) {
                r.due("hears", r.x.hears(0, 0, 10, 0), BAD);
            } else {
                r.due("forget", r.x.forget(), step == 8 ? 6 : 0);
            }
        }
    }

    private static void forgets(Run r) {
        r.tell("w0;w0;s0 1 5 0 0;c0 0 1;");
        r.idle(1);
        for (int heard = 0; r.left() > 0; heard = (heard + 1) % 7) {
            for (int n = 1; n <= heard && r.left() > 0; n++) {
                r.due("hears", r.x.hears(0, 0, 5, 0), n);
            }
            if (r.left() > 0) {
                r.due("forget", r.x.forget(), heard);
            }
        }
    }

    /** Heat 9 less d, less r: from 9 down to -9 stones. */
    private static void stonesOn(Run r) {
        r.tell("w0;w0;s0 1 9 0 0;c0 0 1;c0 0 1;c0 0 1;");
        int heard = 0;
        int sucked = 0;
        int liars = 0;
        for (int i = 0; r.left() > 0; i++) {
            if (i % 3 == 1) {
                r.due("stones 0", r.x.stones(0), sucked);
            } else if (i % 3 == 2) {
                r.due("stones 1", r.x.stones(1), liars);
            } else if (heard == 6) {
                r.due("forget", r.x.forget(), 6);
                heard = 0;
                sucked = 0;
                liars = 0;
            } else {
                int d = i / 3 % 10;
                int say = i / 30 % 10;
                int c = i / 3 % 3;
                int stones = 9 - d - say;
                heard++;
                sucked |= stones >= 1 && stones <= 3 ? 1 << c : 0;
                liars |= stones < 0 || stones > 3 ? 1 << c : 0;
                r.due("hears", r.x.hears(c, 0, d, say), heard);
            }
        }
    }

    private static void marksOn(Run r) {
        r.tell("w0;w0;w0;s0 1 9 0 2;s1 0 9 0 2;c0 0 1;c1 0 1;k0 2 20;k1 2 40;k1 0 3;d2 0 50;d2 1 60;");
        r.idle(1);
        int[] alive = {60, 62, -50, 124, -48, 60};
        int[] dead = {20, 22, -90, 44, -88, 63};
        for (int i = 0; r.left() > 0; i++) {
            int step = i % 14;
            if (step == 6) {
                r.due("goes", r.x.goes(1, 1, 0), 0);
            } else if (step == 13) {
                r.due("undo", r.x.undo(), 0);
            } else {
                int kind = step % 7;
                r.due("mark " + kind, r.x.mark(kind, 2), step < 6 ? alive[kind] : dead[kind]);
            }
        }
    }

    private static void tracesOn(Run r) {
        r.tell("w0;");
        long[] bodies = {1, 11, 101, 1011, 10101, 100001};
        long trace = 0;
        for (int i = 0; r.left() > 0; i++) {
            int kind = i % 7;
            if (kind == 6) {
                r.due("trace", r.x.trace(), trace);
            } else if (r.left() > 1) {
                r.due("mark " + kind, r.x.mark(kind, 0), 0);
                trace += bodies[kind];
            } else {
                r.due("trace", r.x.trace(), trace);
            }
        }
    }

    /** Each image is kept as the SAND comes to be another one. */
    private static void keepsOn(Run r) {
        r.tell("w0;w0;s0 1 9 0 0;c0 0 1;c0 0 1;k0 0 40;k1 1 33;");
        int[] sand = {0, 40, 73};
        for (int i = 0; r.left() > 0; i++) {
            switch (i % 12) {
                case 0: r.due("keep 0", r.x.keep(0), sand[0]); break;
                case 1: case 5: r.due("goes", r.x.goes(i % 12 == 1 ? 0 : 1, 0, 0), 0); break;
                case 2: r.due("keep 1", r.x.keep(1), sand[1]); break;
                case 3: r.due("back 0", r.x.back(0), sand[0]); break;
                case 4: r.due("back 1", r.x.back(1), sand[1]); break;
                case 6: r.due("keep 0", r.x.keep(0), sand[2]); break;
                case 7: r.due("keep", r.x.keep(2), BAD); break;
                case 8: r.due("back 1", r.x.back(1), sand[1]); break;
                case 9: r.due("back 0", r.x.back(0), sand[2]); break;
                case 10: r.due("undo", r.x.undo(), 1); break;
                default: r.due("undo", r.x.undo(), 0);
            }
        }
    }

    /** Ten deeds and more are done behind an image, and it brings back what may be undone, too. */
    private static void backOn(Run r) {
        r.tell("w0;c0 0 1;c0 0 1;k0 0 60;");
        r.idle(3);
        r.due("back", r.x.back(0), STATE);
        r.due("hands", r.x.hands(0, 1, 0, 2), 2);
        r.due("hands", r.x.hands(0, 1, 0, 3), 5);
        r.due("keep", r.x.keep(1), 0);
        for (int i = 0; r.left() > 0; i++) {
            int step = i % 20;
            if (step < 12) {
                r.due("hands", r.x.hands(0, 1, 0, 1), 6 + step);
            } else {
                switch (step) {
                    case 12: r.due("back 0", r.x.back(0), STATE); break;
                    case 13: case 18: r.due("back 1", r.x.back(1), 0); break;
                    case 14: case 19: r.due("knots", r.x.knots(1, 0), 5); break;
                    case 15: r.due("undo", r.x.undo(), 1); break;
                    case 16: r.due("undo", r.x.undo(), 0); break;
                    default: r.due("knots", r.x.knots(1, 0), 0);
                }
            }
        }
    }

    private static void countsOn(Run r) {
        r.tell("w0;w0;w0;s0 1 1 0 0;s1 2 1 0 0;c0 0 1;k0 0 60;");
        r.idle(1);
        int bytes = 0;
        int heard = 0;
        int undos = 0;
        for (int i = 0; r.left() > 0; i++) {
            int[] held = {3, 2, 1, heard, undos, bytes};
            if (i % 4 > 0) {
                int what = (i / 4 * 3 + i % 4 - 1) % 6;
                r.due("count " + what, r.x.count(what), held[what]);
            } else if (i % 12 == 0) {
                bytes++;
                r.due("type", r.x.type(' '), bytes);
            } else if (i % 12 == 4) {
                r.due("hears", r.x.hears(0, 0, 0, 0), heard < 6 ? heard + 1 : FULL);
                heard = Math.min(6, heard + 1);
            } else {
                boolean more = i < 240;
                int due = more ? 60 + i / 12 + 1 : undos > 0 ? undos - 1 : STATE;
                r.due(more ? "fills" : "undo", more ? r.x.fills(0, 1) : r.x.undo(), due);
                undos = more ? Math.min(10, undos + 1) : Math.max(0, undos - 1);
            }
        }
    }
}

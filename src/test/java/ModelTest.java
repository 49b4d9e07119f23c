import java.util.Random;

/**
 * Runs of 512 calls of every kind, from fixed seeds, each answer held against the model's: promises 1 to 27. Each run
 * ends with a call of the promise whose turn it is, and every promise has its turn some sixty times.
 */
public final class ModelTest {
    private static final int RUNS = 1560;
    private static final int CALLS = 512;
    private static final int FIRST_CALL = 2, LAST_CALL = 27;

    /** Promises, each as often as it is to be drawn. */
    private static final int[] DRAWN = {10, 10, 10, 10, 10, 10, 10, 10, 10, 10, 10, 10, 11, 11, 11, 11, 11, 11, 11, 11,
        12, 12, 12, 12, 12, 12, 13, 13, 13, 13, 13, 13, 14, 14, 15, 15, 15, 5, 5, 6, 6, 6, 6, 6, 6, 7, 7, 7, 8, 8, 8, 9,
        9, 9, 16, 16, 16, 16, 26, 26, 26, 17, 17, 17, 17, 17, 18, 18, 18, 18, 19, 19, 19, 19, 20, 20, 20, 20, 21, 22, 22,
        22, 23, 23, 27, 24, 24, 25, 25, 2};

    private static final String[] TOKENS = {"w", "s", "c", "k", "d", "ab", "ww", "z", "0", "1", "00", "01", "9", "10",
        "20", "21", "60", "61", "99", "99", "100", "4294967296", ";"};

    private final Random random;
    private final String name;
    private final int last;
    private final WellKnots x = new WellKnots();
    private final Model m = new Model();
    private int calls;

    private ModelTest(int seed) {
        random = new Random(seed);
        name = "seed " + seed + ": ";
        last = FIRST_CALL + seed % (LAST_CALL - FIRST_CALL + 1);
    }

    public static void main(String[] args) {
        for (int seed = 0; seed < RUNS; seed++) {
            new ModelTest(seed).run();
        }
        Checks.end("ModelTest");
    }

    private void run() {
        while (calls < CALLS - 1) {
            tell(text());
            int deeds = 20 + random.nextInt(300);
            for (int i = 0; i < deeds && calls < CALLS - 1; i++) {
                call(DRAWN[below(DRAWN.length)]);
            }
        }
        call(last);
        Checks.due(name + "calls", calls, CALLS);
    }

    private void due(String call, long got, long want) {
        calls++;
        Checks.due(name + call, got, want);
    }

    private int below(int n) {
        return random.nextInt(n);
    }

    /** Mostly a number from low to high, at times one beyond. */
    private int near(int low, int high) {
        return below(30) == 0 ? (below(2) == 0 ? low - 1 - below(3) : high + 1 + below(3)) : low + below(high - low + 1);
    }

    private int caravan() {
        return near(0, Math.max(0, m.count(2) - 1));
    }

    private int stage() {
        return near(0, Math.max(0, m.count(1) - 1));
    }

    private int well() {
        return near(0, Math.max(0, m.count(0) - 1));
    }

    private void tell(String text) {
        due("clear()", x.clear(), m.clear());
        for (int i = 0; i < text.length() && calls < CALLS - 1; i++) {
            due("type()", x.type(text.charAt(i)), m.type(text.charAt(i)));
        }
        if (calls < CALLS - 1) {
            due("road() of '" + text + "'", x.road(), m.road());
        }
    }

    private String text() {
        StringBuilder t = new StringBuilder();
        int wells = below(8) == 0 ? below(8) : 2 + below(5);
        for (int w = 0; w < wells; w++) {
            item(t, 'w', toTell(0, 1));
        }
        int last = Math.max(1, wells) - 1;
        // a stage or dues with one well alone are a fault each time
        boolean alone = last == 0 && below(4) != 0;
        int stages = alone ? 0 : below(20) == 0 ? 9 : below(9);
        int caravans = below(20) == 0 ? 5 : 1 + below(4);
        for (int s = 0; s < stages && t.length() < 130; s++) {
            int a = toTell(0, last);
            item(t, 's', a, below(40) == 0 ? a : another(a, last), toTell(1, 9), toTell(0, 1), toTell(0, last));
        }
        for (int c = 0; c < caravans && t.length() < 160; c++) {
            item(t, 'c', toTell(0, last), toTell(0, 20), toTell(1, 20));
        }
        int most = below(3) == 0 ? 60 : 1 + below(60);
        // by chance alone hardly any ring goes through all wells
        for (int w = 0; w <= last && t.length() < 150 && stages < 3 && !alone; w++) {
            item(t, 'd', w, (w + 1) % (last + 1), toTell(1, most));
        }
        while (t.length() < 180 && below(15) != 0) {
            int a = toTell(0, last);
            if (alone || below(3) == 0) {
                item(t, 'k', toTell(0, caravans - 1), a, toTell(0, most));
            } else {
                item(t, 'd', a, another(a, last), toTell(0, most));
            }
        }
        return below(4) == 0 ? spoilt(t) : t.toString();
    }

    /** A number from low to high, now and then the one beyond, which is mostly a fault of the text. */
    private int toTell(int low, int high) {
        return below(250) == 0 ? (low > 0 && below(2) == 0 ? low - 1 : high + 1) : low + below(high - low + 1);
    }

    private int another(int a, int last) {
        int b = toTell(0, last);
        return a == b ? (b + 1) % (last + 1) : b;
    }

    private static void item(StringBuilder t, char letter, int... numbers) {
        t.append(letter);
        for (int i = 0; i < numbers.length; i++) {
            t.append(i > 0 ? " " : "").append(numbers[i]);
        }
        t.append(';');
    }

    private String spoilt(StringBuilder t) {
        String signs = "wsckdxz;;  0123456789,#A";
        for (int n = 1 + below(2); n > 0 && t.length() > 0; n--) {
            int at = below(t.length());
            char sign = below(8) == 0 ? (char) below(256) : signs.charAt(below(signs.length()));
            switch (below(6)) {
                case 0: t.deleteCharAt(at); break;
                case 1: t.insert(at, sign); break;
                case 2: t.setLength(at); break;
                case 3: t.setCharAt(at, sign); break;
                default: putToken(t, at);
            }
        }
        return t.toString();
    }

    /** Puts another token where the letter, the number or the ; at that place stands. */
    private void putToken(StringBuilder t, int at) {
        int from = at;
        int to = at + 1;
        while (from > 0 && Character.isDigit(t.charAt(at)) && Character.isDigit(t.charAt(from - 1))) {
            from--;
        }
        while (to < t.length() && Character.isDigit(t.charAt(at)) && Character.isDigit(t.charAt(to))) {
            to++;
        }
        t.replace(from, to, " " + TOKENS[below(TOKENS.length)] + " ");
    }

    private void call(int promise) {
        if (promise < 10) {
            callTheRoad(promise);
        } else if (promise < 17) {
            callWhatIsDone(promise);
        } else if (promise < 20) {
            callWhatCouldBe(promise);
        } else {
            callTheRest(promise);
        }
    }

    private void callTheRoad(int promise) {
        int c = caravan();
        int s = stage();
        int w = well();
        int v = well();
        int what = near(0, promise == 6 ? 5 : 4);
        switch (promise) {
            case 2: {
                int sign = below(4) == 0 ? near(0, 255) : below(2) == 0 ? ' ' : ';';
                due("type(" + sign + ")", x.type(sign), m.type(sign));
                break;
            }
            case 3: due("clear()", x.clear(), m.clear()); break;
            case 4: due("road()", x.road(), m.road()); break;
            case 5: due("stage(" + s + ", " + what + ")", x.stage(s, what), m.stage(s, what)); break;
            case 6: due("caravan(" + c + ", " + what + ")", x.caravan(c, what), m.caravan(c, what)); break;
            case 7: due("well(" + w + ", " + what + ")", x.well(w, what), m.well(w, what)); break;
            case 8: due("knots(" + c + ", " + w + ")", x.knots(c, w), m.knots(c, w)); break;
            default: due("dues(" + w + ", " + v + ")", x.dues(w, v), m.dues(w, v));
        }
    }

    private void callWhatIsDone(int promise) {
        int c = caravan();
        int s = stage();
        int w = well();
        int few = near(1, below(2) == 0 ? 5 : 20);
        switch (promise) {
            case 10: {
                int d = below(3) == 0 ? 0 : near(0, 9);
                due("goes(" + c + ", " + s + ", " + d + ")", x.goes(c, s, d), m.goes(c, s, d));
                break;
            }
            case 11: due("drinks(" + c + ", " + few + ")", x.drinks(c, few), m.drinks(c, few)); break;
            case 12: due("fills(" + c + ", " + few + ")", x.fills(c, few), m.fills(c, few)); break;
            case 13: {
                int e = caravan();
                int n = below(3) == 0 ? near(1, 99) : 1 + below(20);
                due("hands(" + c + ", " + e + ", " + w + ", " + n + ")", x.hands(c, e, w, n), m.hands(c, e, w, n));
                break;
            }
            case 14: due("strikes()", x.strikes(), m.strikes()); break;
            case 15: due("undo()", x.undo(), m.undo()); break;
            default: {
                int what = near(0, 5);
                due("now(" + what + ")", x.now(what), m.now(what));
            }
        }
    }

    private void callWhatCouldBe(int promise) {
        int c = caravan();
        int w = well();
        switch (promise) {
            case 17: {
                int what = near(0, 2);
                due("pass(" + c + ", " + w + ", " + what + ")", x.pass(c, w, what), m.pass(c, w, what));
                break;
            }
            case 18: {
                int i = near(-2, 5);
                due("ring(" + i + ")", x.ring(i), m.ring(i));
                break;
            }
            default: {
                int h = below(2) == 0 ? near(0, 3) : near(0, 9);
                int more = near(0, 9);
                int n = near(0, 6);
                int of = near(0, 10);
                int what = near(0, 1);
                due("safe(" + c + ", " + h + ", " + more + ", " + n + ", " + of + ", " + what + ")",
                    x.safe(c, h, more, n, of, what), m.safe(c, h, more, n, of, what));
            }
        }
    }

    private void callTheRest(int promise) {
        int c = caravan();
        int s = stage();
        int w = well();
        int d = near(0, 9);
        int r = near(0, 9);
        int kind = near(0, 5);
        int one = near(0, 1);
        switch (promise) {
            case 20: due("hears(" + c + ", " + s + ", " + d + ", " + r + ")", x.hears(c, s, d, r), m.hears(c, s, d, r)); break;
            case 21: due("forget()", x.forget(), m.forget()); break;
            case 22: due("stones(" + one + ")", x.stones(one), m.stones(one)); break;
            case 23: due("mark(" + kind + ", " + w + ")", x.mark(kind, w), m.mark(kind, w)); break;
            case 24: due("keep(" + one + ")", x.keep(one), m.keep(one)); break;
            case 25: due("back(" + one + ")", x.back(one), m.back(one)); break;
            case 26: due("count(" + kind + ")", x.count(kind), m.count(kind)); break;
            default: due("trace()", x.trace(), m.trace());
        }
    }
}

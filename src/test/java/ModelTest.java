import java.util.Random;

/** Long runs of calls of every kind, from fixed seeds, each answer held against the model's: promises 1 to 27. */
public final class ModelTest {
    private static final int RUNS = 1500;
    private static final int CALLS = 512;

    private final Random random;
    private final String name;
    private final WellKnots x = new WellKnots();
    private final Model m = new Model();
    private int calls;

    private ModelTest(int seed) {
        random = new Random(seed);
        name = "seed " + seed + ": ";
    }

    public static void main(String[] args) {
        for (int seed = 0; seed < RUNS; seed++) {
            new ModelTest(seed).run();
        }
        Checks.end("ModelTest");
    }

    private void run() {
        while (calls < CALLS) {
            tell(text());
            int deeds = 20 + random.nextInt(300);
            for (int i = 0; i < deeds && calls < CALLS; i++) {
                any();
            }
        }
    }

    private void due(String call, long got, long want) {
        calls++;
        Checks.due(name + call, got, want);
    }

    private int below(int n) {
        return random.nextInt(n);
    }

    /** Mostly a number from low to high, at times one beyond. */
    private int near(int low, int high) {
        return below(30) == 0 ? (below(2) == 0 ? low - 1 - below(3) : high + 1 + below(3)) : low + below(high - low + 1);
    }

    private int caravan() {
        return near(0, Math.max(0, m.count(2) - 1));
    }

    private int stage() {
        return near(0, Math.max(0, m.count(1) - 1));
    }

    private int well() {
        return near(0, Math.max(0, m.count(0) - 1));
    }

    private void tell(String text) {
        due("clear()", x.clear(), m.clear());
        for (int i = 0; i < text.length() && calls < CALLS; i++) {
            due("type()", x.type(text.charAt(i)), m.type(text.charAt(i)));
        }
        if (calls < CALLS) {
            due("road() of '" + text + "'", x.road(), m.road());
        }
    }

    private String text() {
        StringBuilder t = new StringBuilder();
        int wells = below(12) == 0 ? below(8) : 2 + below(5);
        for (int w = 0; w < wells; w++) {
            t.append('w').append(below(2)).append(';');
        }
        int stages = below(20) == 0 ? 9 : below(9);
        int caravans = below(20) == 0 ? 5 : 1 + below(4);
        int w = Math.max(1, wells);
        for (int s = 0; s < stages && t.length() < 130; s++) {
            int a = below(w);
            t.append('s').append(a).append(' ').append(below(40) == 0 ? a : (a + 1 + below(Math.max(1, w - 1))) % w)
                .append(' ').append(1 + below(9)).append(' ').append(below(2)).append(' ').append(below(w)).append(';');
        }
        for (int c = 0; c < caravans && t.length() < 160; c++) {
            t.append('c').append(below(w)).append(' ').append(below(21)).append(' ').append(1 + below(20)).append(';');
        }
        int most = 1 + below(60);
        while (t.length() < 180 && below(15) != 0) {
            int a = below(w);
            if (below(3) == 0) {
                t.append('k').append(below(Math.max(1, caravans))).append(' ').append(a);
            } else {
                t.append('d').append(a).append(' ').append((a + 1 + below(Math.max(1, w - 1))) % w);
            }
            t.append(' ').append(below(most + 1)).append(';');
        }
        return below(4) == 0 ? spoilt(t) : t.toString();
    }

    private String spoilt(StringBuilder t) {
        String signs = "wsckdxz;;  0123456789,#A";
        for (int n = 1 + below(2); n > 0 && t.length() > 0; n--) {
            int at = below(t.length());
            char sign = below(8) == 0 ? (char) below(256) : signs.charAt(below(signs.length()));
            switch (below(4)) {
                case 0: t.deleteCharAt(at); break;
                case 1: t.insert(at, sign); break;
                case 2: t.setLength(at); break;
                default: t.setCharAt(at, sign);
            }
        }
        return t.toString();
    }

    private void any() {
        int kind = below(100);
        if (kind < 45) {
            deed();
        } else if (kind < 75) {
            look();
        } else if (kind < 90) {
            couldBe();
        } else {
            rest();
        }
    }

    private void deed() {
        int c = caravan();
        int s = stage();
        int w = well();
        switch (below(14)) {
            case 0: case 1: case 2: case 3: case 4: {
                int d = below(3) == 0 ? 0 : near(0, 9);
                due("goes(" + c + ", " + s + ", " + d + ")", x.goes(c, s, d), m.goes(c, s, d));
                break;
            }
            case 5: case 6: case 7: {
                int n = near(1, below(2) == 0 ? 5 : 20);
                due("drinks(" + c + ", " + n + ")", x.drinks(c, n), m.drinks(c, n));
                break;
            }
            case 8: case 9: {
                int n = near(1, below(2) == 0 ? 5 : 20);
                due("fills(" + c + ", " + n + ")", x.fills(c, n), m.fills(c, n));
                break;
            }
            case 10: case 11: {
                int e = caravan();
                int n = below(3) == 0 ? near(1, 99) : 1 + below(20);
                due("hands(" + c + ", " + e + ", " + w + ", " + n + ")", x.hands(c, e, w, n), m.hands(c, e, w, n));
                break;
            }
            case 12: due("strikes()", x.strikes(), m.strikes()); break;
            default: due("undo()", x.undo(), m.undo());
        }
    }

    private void look() {
        int c = caravan();
        int s = stage();
        int w = well();
        int v = well();
        int what = near(0, 5);
        switch (below(8)) {
            case 0: due("stage(" + s + ", " + what + ")", x.stage(s, what), m.stage(s, what)); break;
            case 1: case 2: due("caravan(" + c + ", " + what + ")", x.caravan(c, what), m.caravan(c, what)); break;
            case 3: due("well(" + w + ", " + what + ")", x.well(w, what), m.well(w, what)); break;
            case 4: due("knots(" + c + ", " + w + ")", x.knots(c, w), m.knots(c, w)); break;
            case 5: due("dues(" + w + ", " + v + ")", x.dues(w, v), m.dues(w, v)); break;
            case 6: due("now(" + what + ")", x.now(what), m.now(what)); break;
            default: due("count(" + what + ")", x.count(what), m.count(what));
        }
    }

    private void couldBe() {
        int c = caravan();
        int w = well();
        switch (below(3)) {
            case 0: {
                int what = near(0, 2);
                due("pass(" + c + ", " + w + ", " + what + ")", x.pass(c, w, what), m.pass(c, w, what));
                break;
            }
            case 1: {
                int i = near(-2, 5);
                due("ring(" + i + ")", x.ring(i), m.ring(i));
                break;
            }
            default: {
                int h = below(2) == 0 ? near(0, 3) : near(0, 9);
                int more = near(0, 9);
                int n = near(0, 6);
                int of = near(0, 10);
                int what = near(0, 1);
                due("safe(" + c + ", " + h + ", " + more + ", " + n + ", " + of + ", " + what + ")",
                    x.safe(c, h, more, n, of, what), m.safe(c, h, more, n, of, what));
            }
        }
    }

    private void rest() {
        int c = caravan();
        int s = stage();
        int w = well();
        switch (below(10)) {
            case 0: case 1: case 2: {
                int d = near(0, 9);
                int r = near(0, 9);
                due("hears(" + c + ", " + s + ", " + d + ", " + r + ")", x.hears(c, s, d, r), m.hears(c, s, d, r));
                break;
            }
            case 3: due("forget()", below(3) == 0 ? x.forget() - m.forget() : 0, 0); break;
            case 4: case 5: {
                int what = near(0, 1);
                due("stones(" + what + ")", x.stones(what), m.stones(what));
                break;
            }
            case 6: case 7: {
                int kind = near(0, 5);
                due("mark(" + kind + ", " + w + ")", x.mark(kind, w), m.mark(kind, w));
                if (calls < CALLS) {
                    due("trace()", x.trace(), m.trace());
                }
                break;
            }
            case 8: {
                int image = near(0, 1);
                due("keep(" + image + ")", x.keep(image), m.keep(image));
                break;
            }
            default: {
                int image = near(0, 1);
                due("back(" + image + ")", x.back(image), m.back(image));
            }
        }
    }
}

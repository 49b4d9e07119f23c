import java.util.ArrayList;
import java.util.List;
import java.util.function.BiConsumer;
import java.util.function.Supplier;
import java.util.function.ToLongFunction;

/**
 * Two objects that must be alike in all that they hold. What may be undone, what images keep and what THE TEXT tells
 * shows only when it is brought back, so each of these is looked at on a pair of its own.
 */
final class Twins {
    private static final String RICH = "w0;w1;w0;s0 1 4 0 2;s1 2 9 1 0;s0 2 1 1 1;c0 9 12;c2 20 20;c1 0 1;"
        + "k0 0 40;k0 2 9;k1 1 33;k1 0 5;k2 2 7;d0 1 8;d1 0 5;d1 2 6;d2 0 4;";
    private static final String MOST = "w0;w1;w0;w1;w0;w1;s0 1 9 1 5;s1 2 8 0 4;s2 3 7 1 3;s3 4 6 0 2;s4 5 5 1 1;"
        + "s5 0 4 0 0;s0 3 3 1 5;s2 5 1 0 4;c0 20 20;c1 10 5;c5 0 1;c3 7 9;k3 5 60;k0 0 8;d5 0 60;d0 5 9;";

    private Twins() {
    }

    /** An object on which there is some of everything: a dead caravan, deeds, images, something heard, marks, a text. */
    static WellKnots rich() {
        WellKnots x = Checks.told(RICH);
        x.goes(2, 1, 0);
        x.keep(0);
        x.hears(0, 0, 1, 1);
        x.goes(0, 0, 2);
        x.drinks(0, 1);
        x.keep(1);
        x.fills(0, 2);
        x.hands(1, 0, 0, 3);
        x.strikes();
        x.hears(1, 1, 0, 2);
        x.mark(4, 1);
        Checks.type(x, "w1;w0;d0 1 7;");
        return x;
    }

    /** An object with as many wells, stages and caravans as there may be. */
    static WellKnots most() {
        return Checks.told(MOST);
    }

    /** An object whose one caravan has filled one cup so many times. */
    static WellKnots filled(int times) {
        WellKnots x = Checks.told("w0;c0 0 1;");
        for (int n = 0; n < times; n++) {
            x.fills(0, 1);
        }
        return x;
    }

    /** Both hold the same, THE TRACE too. */
    static void alike(String name, Supplier<WellKnots> one, Supplier<WellKnots> other) {
        alikeButTrace(name, one, other);
        look(name + ", then trace()", one, other, (x, seen) -> seen.add(x.trace()));
    }

    static void alikeButTrace(String name, Supplier<WellKnots> one, Supplier<WellKnots> other) {
        look(name + ", then all", one, other, Twins::lookAtAll);
        look(name + ", then undo()", one, other, Twins::lookAtUndos);
        look(name + ", then back(0)", one, other, (x, seen) -> lookAtImage(x, 0, seen));
        look(name + ", then back(1)", one, other, (x, seen) -> lookAtImage(x, 1, seen));
        look(name + ", then road()", one, other, Twins::lookAtText);
    }

    /** The call changes nothing, whatever it answers. */
    static void unchanged(String call, Supplier<WellKnots> made, ToLongFunction<WellKnots> called) {
        alike(call, () -> {
            WellKnots x = made.get();
            called.applyAsLong(x);
            return x;
        }, made);
    }

    /** The call is refused by the answer that is due, and nothing changes. */
    static void refused(String call, Supplier<WellKnots> made, ToLongFunction<WellKnots> called, long due) {
        Checks.due(call, called.applyAsLong(made.get()), due);
        unchanged(call, made, called);
    }

    private static void look(String name, Supplier<WellKnots> one, Supplier<WellKnots> other,
            BiConsumer<WellKnots, List<Long>> eye) {
        List<Long> seen = new ArrayList<>();
        List<Long> want = new ArrayList<>();
        eye.accept(one.get(), seen);
        eye.accept(other.get(), want);
        Checks.due(name + ": answers", seen.size(), want.size());
        for (int i = 0; i < seen.size() && i < want.size(); i++) {
            Checks.due(name + ": answer " + i, seen.get(i), want.get(i));
        }
    }

    private static void lookAtAll(WellKnots x, List<Long> seen) {
        for (int what = 0; what < 6; what++) {
            seen.add((long) x.count(what));
            seen.add((long) x.now(what));
        }
        for (int i = -2; i < 6; i++) {
            seen.add((long) x.ring(i));
        }
        seen.add((long) x.stones(0));
        seen.add((long) x.stones(1));
        lookAtRoad(x, seen);
        lookAtCaravans(x, seen);
    }

    private static void lookAtRoad(WellKnots x, List<Long> seen) {
        int stages = x.count(1);
        int wells = x.count(0);
        for (int s = 0; s < stages; s++) {
            for (int what = 0; what < 5; what++) {
                seen.add((long) x.stage(s, what));
            }
        }
        for (int w = 0; w < wells; w++) {
            for (int what = 0; what < 4; what++) {
                seen.add((long) x.well(w, what));
            }
            for (int v = 0; v < wells; v++) {
                seen.add((long) x.dues(w, v));
            }
        }
    }

    private static void lookAtCaravans(WellKnots x, List<Long> seen) {
        int caravans = x.count(2);
        int wells = x.count(0);
        for (int c = 0; c < caravans; c++) {
            for (int what = 0; what < 6; what++) {
                seen.add((long) x.caravan(c, what));
            }
            for (int w = 0; w < wells; w++) {
                seen.add((long) x.knots(c, w));
                seen.add((long) x.pass(c, w, 0));
            }
        }
    }

    /** All that deeds change, by fewer calls than lookAtAll: an object has 512. */
    private static void lookAtNow(WellKnots x, List<Long> seen) {
        for (int what = 0; what < 4; what++) {
            seen.add((long) x.now(what));
        }
        int caravans = x.count(2);
        int wells = x.count(0);
        for (int c = 0; c < caravans; c++) {
            seen.add((long) x.caravan(c, 0));
            seen.add((long) x.caravan(c, 1));
            seen.add((long) x.caravan(c, 3));
            seen.add((long) x.caravan(c, 5));
        }
        for (int w = 0; w < wells; w++) {
            seen.add((long) x.well(w, 1));
            seen.add((long) x.well(w, 2));
        }
    }

    private static void lookAtUndos(WellKnots x, List<Long> seen) {
        for (int i = 0; i < 11; i++) {
            int left = x.undo();
            seen.add((long) left);
            if (left < 0) {
                return;
            }
            lookAtNow(x, seen);
        }
    }

    private static void lookAtImage(WellKnots x, int image, List<Long> seen) {
        seen.add((long) x.back(image));
        lookAtNow(x, seen);
        lookAtUndos(x, seen);
    }

    private static void lookAtText(WellKnots x, List<Long> seen) {
        seen.add((long) x.road());
        seen.add((long) x.clear());
        lookAtAll(x, seen);
    }
}

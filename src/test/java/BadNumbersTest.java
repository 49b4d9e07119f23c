import java.util.function.Supplier;

/**
 * "Refused, and nothing changes: BAD (a number is not as told, or there is no such thing)": of every number of every
 * call, those beyond either end are refused, far and near, and those from end to end are not.
 */
public final class BadNumbersTest {
    private static final int BAD = -1, NO = -1000000;

    private interface Call {
        long on(WellKnots x, int n);
    }

    public static void main(String[] args) {
        theRoad();
        whatIsDone();
        whatCouldBe();
        stones();
        kindsAndImages();
        Checks.end("BadNumbersTest");
    }

    private static void theRoad() {
        number("2 type: a byte (0 .. 255)", 0, 255, (x, n) -> x.type(n), BAD);
        stage("5 stage: a STAGE", (x, n) -> x.stage(n, 0));
        number("5 stage: 0 .. 4", 0, 4, (x, n) -> x.stage(2, n), BAD);
        caravan("6 caravan: a CARAVAN", (x, n) -> x.caravan(n, 0));
        number("6 caravan: 0 .. 5", 0, 5, (x, n) -> x.caravan(1, n), BAD);
        well("7 well: a WELL", (x, n) -> x.well(n, 1), NO);
        number("7 well: 0 .. 3", 0, 3, (x, n) -> x.well(2, n), NO);
        caravan("8 knots: a CARAVAN", (x, n) -> x.knots(n, 0));
        well("8 knots: a WELL", (x, n) -> x.knots(0, n), BAD);
        well("9 dues: a WELL", (x, n) -> x.dues(n, another(n)), BAD);
        well("9 dues: another one", (x, n) -> x.dues(another(n), n), BAD);
    }

    private static void whatIsDone() {
        caravan("10 goes: a CARAVAN", (x, n) -> x.goes(n, 0, 0));
        stage("10 goes: a STAGE", (x, n) -> x.goes(0, n, 0));
        number("10 goes: d (0 .. 9)", 0, 9, (x, n) -> x.goes(0, 0, n), BAD);
        caravan("11 drinks: a CARAVAN", (x, n) -> x.drinks(n, 1));
        number("11 drinks: n (1 .. 20)", 1, 20, (x, n) -> x.drinks(0, n), BAD);
        caravan("12 fills: a CARAVAN", (x, n) -> x.fills(n, 1));
        number("12 fills: n (1 .. 20)", 1, 20, (x, n) -> x.fills(0, n), BAD);
        caravan("13 hands: a CARAVAN", (x, n) -> x.hands(n, another(n), 0, 1));
        caravan("13 hands: to another one", (x, n) -> x.hands(another(n), n, 0, 1));
        well("13 hands: a WELL", (x, n) -> x.hands(0, 1, n, 1), BAD);
        number("13 hands: n (1 .. 99)", 1, 99, (x, n) -> x.hands(0, 1, 0, n), BAD);
        number("16 now: 0 .. 5", 0, 5, (x, n) -> x.now(n), BAD);
    }

    private static void whatCouldBe() {
        caravan("17 pass: a CARAVAN", (x, n) -> x.pass(n, 0, 0));
        well("17 pass: a WELL", (x, n) -> x.pass(0, n, 0), BAD);
        number("17 pass: 0 .. 2", 0, 2, (x, n) -> x.pass(0, 2, n), BAD);
        number("18 ring: i -2 .. 5", -2, 5, (x, n) -> x.ring(n), BAD);
        caravan("19 safe: a CARAVAN", (x, n) -> x.safe(n, 1, 1, 1, 1, 0));
        number("19 safe: h (0 .. 9)", 0, 9, (x, n) -> x.safe(0, n, 1, 2, 3, 0), BAD);
        number("19 safe: more (0 .. 9)", 0, 9, (x, n) -> x.safe(0, 2, n, 2, 3, 0), BAD);
        number("19 safe: n (0 .. 6)", 0, 6, (x, n) -> x.safe(0, 2, 1, n, 3, 0), BAD);
        number("19 safe: x (0 .. 10)", 0, 10, (x, n) -> x.safe(0, 2, 1, 2, n, 0), BAD);
        number("19 safe: 0, 1", 0, 1, (x, n) -> x.safe(0, 2, 1, 2, 3, n), BAD);
    }

    private static void stones() {
        caravan("20 hears: a CARAVAN", (x, n) -> x.hears(n, 0, 1, 1));
        stage("20 hears: a STAGE", (x, n) -> x.hears(0, n, 1, 1));
        number("20 hears: d (0 .. 9)", 0, 9, (x, n) -> x.hears(0, 0, n, 1), BAD);
        number("20 hears: r (0 .. 9)", 0, 9, (x, n) -> x.hears(0, 0, 1, n), BAD);
        number("22 stones: 0, 1", 0, 1, (x, n) -> x.stones(n), BAD);
    }

    private static void kindsAndImages() {
        number("23 mark: KINDS 0 .. 5", 0, 5, (x, n) -> x.mark(n, 1), NO);
        well("23 mark: a WELL", (x, n) -> x.mark(5, n), NO);
        number("24 keep: IMAGES 0, 1", 0, 1, (x, n) -> x.keep(n), BAD);
        number("25 back: IMAGES 0, 1", 0, 1, (x, n) -> x.back(n), BAD);
        number("26 count: 0 .. 5", 0, 5, (x, n) -> x.count(n), BAD);
    }

    private static int another(int n) {
        return n == 1 ? 0 : 1;
    }

    private static void number(String words, int low, int high, Call call, int refusal) {
        Checks.edge(words, () -> ends(Twins::rich, low, high, call, refusal));
    }

    private static void well(String words, Call call, int refusal) {
        thing(words, new int[] {3, 6}, call, refusal);
    }

    private static void stage(String words, Call call) {
        thing(words, new int[] {3, 8}, call, BAD);
    }

    private static void caravan(String words, Call call) {
        thing(words, new int[] {3, 4}, call, BAD);
    }

    /** There is none of it on a new object, some of it on a rich one, and as many as there may be on the last. */
    private static void thing(String words, int[] many, Call call, int refusal) {
        Checks.edge(words + ", of some", () -> ends(Twins::rich, 0, many[0] - 1, call, refusal));
        Checks.edge(words + ", of most", () -> ends(Twins::most, 0, many[1] - 1, call, refusal));
        Checks.edge(words + ", of none", () -> {
            beyond(WellKnots::new, 0, 0, call, refusal);
            Twins.refused("with 0", WellKnots::new, x -> call.on(x, 0), refusal);
        });
    }

    private static void ends(Supplier<WellKnots> made, int low, int high, Call call, int refusal) {
        for (int n = low; n <= high; n++) {
            Checks.due(n + " is refused (1)", call.on(made.get(), n) == refusal ? 1 : 0, 0);
        }
        beyond(made, low, high, call, refusal);
    }

    /** Some of these are numbers as told again if their upper bits are lost. */
    private static void beyond(Supplier<WellKnots> made, int low, int high, Call call, int refusal) {
        int[] numbers = {low - 1, high + 1, low - 256, high + 256, low - 65536, high + 65536, Integer.MIN_VALUE,
            Integer.MIN_VALUE + high, Integer.MAX_VALUE, low - 1000000};
        for (int n : numbers) {
            Twins.refused("with " + n, made, x -> call.on(x, n), refusal);
        }
    }
}

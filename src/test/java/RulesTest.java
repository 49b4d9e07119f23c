import java.lang.management.ManagementFactory;
import java.lang.reflect.Constructor;
import java.lang.reflect.Field;
import java.lang.reflect.Method;
import java.lang.reflect.Modifier;
import java.nio.file.Files;
import java.nio.file.Path;
import java.util.HashSet;
import java.util.Set;
import java.util.TreeSet;
import java.util.regex.Matcher;
import java.util.regex.Pattern;

/** The public face of the document, the rules of LANGUAGE.md that a program can see, and calls with any numbers at all. */
public final class RulesTest {
    private static final int[] WILD = {Integer.MIN_VALUE, Integer.MIN_VALUE + 1, -1000000, -257, -100, -10, -9, -3, -2, -1,
        0, 1, 2, 3, 4, 5, 6, 7, 8, 9, 10, 11, 20, 21, 31, 32, 33, 60, 61, 63, 64, 99, 100, 200, 255, 256, 1000000,
        Integer.MAX_VALUE - 1, Integer.MAX_VALUE};

    private static final Set<String> FACE = Set.of("type/1", "clear/0", "road/0", "stage/2", "caravan/2", "well/2",
        "knots/2", "dues/2", "goes/3", "drinks/2", "fills/2", "hands/4", "strikes/0", "undo/0", "now/1", "pass/3",
        "ring/1", "safe/6", "hears/4", "forget/0", "stones/1", "mark/2", "keep/1", "back/1", "count/1", "trace/0");

    public static void main(String[] args) throws Exception {
        constants();
        face();
        members();
        nestedClasses();
        words();
        wildNumbers();
        room();
        Checks.end("RulesTest");
    }

    private static void ok(String rule, boolean holds) {
        Checks.due(rule, holds ? 1 : 0, 1);
    }

    private static void constants() {
        Checks.due("BAD", WellKnots.BAD, -1);
        Checks.due("STATE", WellKnots.STATE, -2);
        Checks.due("FULL", WellKnots.FULL, -3);
        Checks.due("NONE", WellKnots.NONE, -9);
        Checks.due("NO", WellKnots.NO, -1000000);
    }

    private static void face() {
        Set<String> found = new HashSet<>();
        for (Method method : WellKnots.class.getDeclaredMethods()) {
            if (Modifier.isPublic(method.getModifiers())) {
                found.add(method.getName() + "/" + method.getParameterCount());
                ok(method + " answers an int, trace a long",
                    method.getReturnType() == (method.getName().equals("trace") ? long.class : int.class));
                for (Class<?> type : method.getParameterTypes()) {
                    ok(method + " takes ints", type == int.class);
                }
            }
        }
        ok("the face is " + new TreeSet<>(found), found.equals(FACE));
        ok("the class is public and final", Modifier.isPublic(WellKnots.class.getModifiers())
            && Modifier.isFinal(WellKnots.class.getModifiers()));
        Constructor<?>[] constructors = WellKnots.class.getDeclaredConstructors();
        ok("one public constructor without arguments", constructors.length == 1
            && Modifier.isPublic(constructors[0].getModifiers()) && constructors[0].getParameterCount() == 0);
    }

    private static void members() {
        Set<String> names = new HashSet<>();
        for (String method : FACE) {
            names.add(method.substring(0, method.indexOf('/')));
        }
        Set<String> constants = Set.of("BAD", "STATE", "FULL", "NONE", "NO");
        for (Method method : WellKnots.class.getDeclaredMethods()) {
            if (!method.isSynthetic()) {
                boolean shown = names.contains(method.getName());
                ok(method + " is of the face, or private", shown ? Modifier.isPublic(method.getModifiers())
                    : Modifier.isPrivate(method.getModifiers()));
            }
        }
        for (Field field : WellKnots.class.getDeclaredFields()) {
            ok(field + " is of the face, or private", constants.contains(field.getName())
                ? Modifier.isPublic(field.getModifiers()) : Modifier.isPrivate(field.getModifiers()));
        }
    }

    private static void nestedClasses() {
        Class<?>[] nested = WellKnots.class.getDeclaredClasses();
        ok("some twelve classes", nested.length + 1 <= 12);
        for (Class<?> type : nested) {
            ok(type + " is static", Modifier.isStatic(type.getModifiers()));
            ok(type + " is not public", !Modifier.isPublic(type.getModifiers()));
            lookAtMembers(type);
        }
        lookAtMembers(WellKnots.class);
    }

    private static void lookAtMembers(Class<?> type) {
        int fields = 0;
        for (Field field : type.getDeclaredFields()) {
            boolean isStatic = Modifier.isStatic(field.getModifiers());
            ok(field + ": static fields are final", !isStatic || Modifier.isFinal(field.getModifiers()));
            fields += isStatic ? 0 : 1;
        }
        ok(type + " has some twenty fields", fields <= 20);
        for (Method method : type.getDeclaredMethods()) {
            ok(method + " takes at most seven", method.getParameterCount() <= 7);
        }
    }

    private static void words() throws Exception {
        String source = Files.readString(Path.of(System.getProperty("wellknots.source", "src/main/java/WellKnots.java")));
        String code = Pattern.compile("/\\*.*?\\*/|//[^\n]*", Pattern.DOTALL).matcher(source).replaceAll(" ");
        for (String word : new String[] {"throw", "throws", "try", "catch", "finally", "synchronized", "assert", "package",
            "native", "volatile", "transient", "protected", "double", "float", "Object", "Thread", "Random", "hashCode",
            "toString", "nanoTime", "currentTimeMillis", "var", "yield"}) {
            ok("no word " + word, !Pattern.compile("\\b" + word + "\\b").matcher(code).find());
        }
        ok("no lambda, no method reference", !code.contains("->") && !code.contains("::"));
        Matcher imports = Pattern.compile("import\\s+([\\w.*]+)").matcher(code);
        while (imports.find()) {
            ok("import " + imports.group(1), imports.group(1).equals("java.util.Arrays"));
        }
        Matcher library = Pattern.compile("\\b(System|Arrays|Math|Integer|Long)\\.(\\w+)").matcher(code);
        while (library.find()) {
            ok(library.group(), Set.of("System.arraycopy", "Arrays.fill", "Math.min", "Math.max", "Integer.bitCount")
                .contains(library.group()));
        }
        ok("signs 1 to 127", source.chars().allMatch(c -> c >= 1 && c <= 127));
    }

    /** An exception from any of these ends the test. */
    private static void wildNumbers() {
        String[] texts = {"", "w0;", "w0;w1;s0 1 9 1 1;c0 5 9;c1 20 20;k0 0 9;k1 1 60;d0 1 5;d1 0 3;",
            "w0;w1;w0;w1;w0;w1;s0 1 9 1 1;s5 4 9 0 5;s0 1 1 0 0;s2 3 3 1 4;c5 5 9;c1 20 20;c0 0 1;c4 4 4;d0 5 5;d5 0 3;d5 3 7;d3 0 9;"};
        for (String text : texts) {
            WellKnots x = Checks.told(text);
            for (int a : WILD) {
                x.now(a);
                x.ring(a);
                x.stones(a);
                x.keep(a);
                x.count(a);
                x.type(a);
                for (int b : WILD) {
                    two(x, a, b);
                    for (int c : WILD) {
                        three(x, a, b, c);
                    }
                }
                x.back(a);
                x.undo();
                x.strikes();
            }
            ok("wells are as told", x.count(0) == text.chars().filter(c -> c == 'w').count());
        }
    }

    private static void two(WellKnots x, int a, int b) {
        x.stage(a, b);
        x.caravan(a, b);
        x.well(a, b);
        x.knots(a, b);
        x.dues(a, b);
        x.drinks(a, b);
        x.fills(a, b);
        x.mark(a, b);
    }

    private static void three(WellKnots x, int a, int b, int c) {
        x.goes(a, b, c);
        x.pass(a, b, c);
        for (int d : new int[] {Integer.MIN_VALUE, -1, 0, 1, 6, 10, Integer.MAX_VALUE}) {
            x.hands(a, b, c, d);
            x.hears(a, b, c, d);
            x.safe(a, b, c, d, 1, 0);
            x.safe(0, a, b, c, d, 1);
        }
    }

    /** All calls of a run live in one room, so calls make nothing, and a new object makes little. */
    private static void room() {
        com.sun.management.ThreadMXBean meter = (com.sun.management.ThreadMXBean) ManagementFactory.getThreadMXBean();
        long thread = Thread.currentThread().getId();
        WellKnots x = Checks.told("w0;w1;w0;w0;w0;w0;s0 1 9 1 1;s1 2 9 1 1;c0 20 20;c1 20 20;d0 1 5;d1 2 3;d2 0 5;d3 0 4;d0 3 4;");
        dearCalls(x, 10);
        long before = meter.getThreadAllocatedBytes(thread);
        dearCalls(x, 1000);
        long made = meter.getThreadAllocatedBytes(thread) - before;
        ok("1000 rounds of calls made " + made + " bytes", made < 20000);
        before = meter.getThreadAllocatedBytes(thread);
        for (int i = 0; i < 100; i++) {
            new WellKnots().clear();
        }
        made = meter.getThreadAllocatedBytes(thread) - before;
        ok("100 objects made " + made + " bytes", made < 100 * 20000);
    }

    private static void dearCalls(WellKnots x, int rounds) {
        for (int i = 0; i < rounds; i++) {
            x.keep(i & 1);
            x.goes(0, 0, 9);
            x.fills(1, 1);
            x.ring(0);
            x.strikes();
            x.now(4);
            x.now(5);
            x.pass(0, 2, 0);
            x.safe(0, 1, 1, 6, 5, 0);
            x.mark(3, 0);
            x.hears(0, 0, 1, 1);
            x.forget();
            x.undo();
            x.back(i & 1);
            x.type('w');
            x.road();
            x.clear();
        }
    }
}

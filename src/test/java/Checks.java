/** What all tests of the project share: texts told byte by byte, and the count of wrong answers. */
final class Checks {
    private static int made = 0;
    private static int wrong = 0;
    private static int edges = 0;
    private static String sentence = "";

    private Checks() {
    }

    static void due(String call, long got, long want) {
        made++;
        if (got != want) {
            wrong++;
            System.out.println(sentence + call + " answered " + got + ", due is " + want);
        }
    }

    /** The test of one sentence of the document that names a boundary case; a test that looks at nothing fails. */
    static void edge(String words, Runnable test) {
        int before = made;
        edges++;
        sentence = "[" + words + "] ";
        test.run();
        if (made == before) {
            wrong++;
            System.out.println(sentence + "looked at no answer");
        }
        sentence = "";
    }

    static void type(WellKnots x, String text) {
        for (int i = 0; i < text.length(); i++) {
            x.type(text.charAt(i));
        }
    }

    /** What road() answers for a text, told to an object whose text is emptied ahead of it. */
    static int tell(WellKnots x, String text) {
        x.clear();
        type(x, text);
        return x.road();
    }

    static WellKnots told(String text) {
        WellKnots x = new WellKnots();
        int items = tell(x, text);
        if (items < 0) {
            due("road() of " + text, items, 0);
        }
        return x;
    }

    /** Ends the test: exit code 1 if an answer was wrong. */
    static void end(String name) {
        System.out.println(name + ": " + made + " answers looked at" + (edges > 0 ? ", " + edges + " sentences" : "")
            + ", " + wrong + " wrong");
        if (wrong != 0 || made == 0) {
            System.exit(1);
        }
    }
}

import java.util.function.Supplier;

/** Boundary cases of promises 1 to 4 and of the text's tokens: a test for each sentence that names one. */
public final class TextEdgesTest {
    private static final String ITEMS = "w1;w0;s0 1 9 1 0;c1 20 19;k0 1 60;d1 0 45;";

    public static void main(String[] args) {
        newObject();
        typeAndClear();
        roadTellsAll();
        tokens();
        faults();
        Checks.end("TextEdgesTest");
    }

    private static void newObject() {
        Checks.edge("1: no WELLS, nobody", TextEdgesTest::nothingIsThere);
        Checks.edge("1: nothing is done, HEARD or kept yet", TextEdgesTest::nothingIsDone);
        Checks.edge("1: THE TEXT is empty", () -> {
            Twins.refused("clear()", WellKnots::new, x -> x.clear(), 0);
            Twins.refused("road()", WellKnots::new, x -> x.road(), 0);
        });
    }

    private static void typeAndClear() {
        Checks.edge("2: how many it has", () -> {
            WellKnots x = new WellKnots();
            for (int n = 1; n <= 200; n++) {
                Checks.due("type() for the " + n + "th time", x.type(255 - n % 256), n);
                Checks.due("count(5)", x.count(5), n);
            }
        });
        Checks.edge("2: FULL (200 bytes at most)", () ->
            Twins.refused("type(';') with 200 bytes", TextEdgesTest::fullText, x -> x.type(';'), -3));
        Checks.edge("2: FULL, for any byte", () -> {
            Twins.refused("type(0) with 200 bytes", TextEdgesTest::fullText, x -> x.type(0), -3);
            Twins.refused("type(32) with 200 bytes", TextEdgesTest::fullText, x -> x.type(32), -3);
            Twins.refused("type(255) with 200 bytes", TextEdgesTest::fullText, x -> x.type(255), -3);
        });
        Checks.edge("2: BAD comes ahead of FULL", () -> {
            Twins.refused("type(-1) with 200 bytes", TextEdgesTest::fullText, x -> x.type(-1), -1);
            Twins.refused("type(256) with 200 bytes", TextEdgesTest::fullText, x -> x.type(256), -1);
        });
        Checks.edge("3: how many bytes it had, none", () -> {
            WellKnots x = Twins.rich();
            Checks.due("clear() of some", x.clear(), 13);
            Checks.due("clear() of none", x.clear(), 0);
        });
        Checks.edge("3: how many bytes it had, 200", () -> {
            WellKnots x = fullText();
            Checks.due("clear()", x.clear(), 200);
            Checks.due("count(5)", x.count(5), 0);
            Checks.due("type() is not FULL then", x.type('w'), 1);
        });
        Checks.edge("3: THE TEXT is empty, and nothing else changes", () -> Twins.alike("clear() and the text again",
            () -> {
                WellKnots x = Twins.rich();
                x.clear();
                Checks.type(x, "w1;w0;d0 1 7;");
                return x;
            }, Twins::rich));
    }

    private static void roadTellsAll() {
        Checks.edge("4: how many ITEMS, none", () -> {
            tells("", 0);
            tells(" ", 0);
            tells(" ".repeat(200), 0);
        });
        Checks.edge("4: told by none, there is nothing", () -> Twins.alike("road() of an empty text", () -> {
            WellKnots x = Checks.told(ITEMS);
            x.road();
            return x;
        }, WellKnots::new));
        Checks.edge("4: how many ITEMS, as many as 200 bytes can tell", () -> tells("w0;".repeat(6) + "d0 1 9;".repeat(26), 32));
        Checks.edge("4: THE TEXT is empty then", () -> {
            WellKnots x = Twins.rich();
            Checks.due("road()", x.road(), 3);
            Checks.due("count(5)", x.count(5), 0);
            Checks.due("clear()", x.clear(), 0);
        });
        Checks.edge("4: a text of 200 bytes is read to its last", () -> {
            WellKnots x = new WellKnots();
            Checks.due("road()", Checks.tell(x, " ".repeat(194) + "w1;w1;"), 2);
            Checks.due("count(5)", x.count(5), 0);
            Checks.due("the last well", x.well(1, 0), 1);
        });
        Checks.edge("4: -10 less FAULT, at the first byte", () -> fault("x", 0));
        Checks.edge("4: -10 less FAULT, at the last byte of 200", () -> fault(" ".repeat(199) + "x", 199));
        Checks.edge("4: -10 less FAULT, behind 200 bytes", () -> fault(" ".repeat(199) + "w", 200));
        Checks.edge("4: -10 less FAULT: nothing changes", () -> {
            for (String more : new String[] {"x", "w", "w2;", "s0 1 9 0 0;c0 1 1;k0 0 9;d1 0 3;#", "w0;w0;w0;w0;w0;"}) {
                Twins.unchanged("road() that ends by " + more, () -> {
                    WellKnots x = Twins.rich();
                    Checks.type(x, more);
                    return x;
                }, x -> x.road());
            }
        });
        Checks.edge("4: -10 less FAULT: nothing of it is left to a later text", TextEdgesTest::toldBehindFault);
        Checks.edge("4: Read anew: as told, nothing HEARD or to be UNDONE, IMAGES are gone", TextEdgesTest::readAnew);
    }

    private static void tokens() {
        Checks.edge("blanks (32) between TOKENS: none, one, many", () -> {
            tells("w1;w0;", 2);
            tells("w 1 ; w 0 ; ", 2);
            tells("   w   1   ;   w   0   ;   ", 2);
        });
        Checks.edge("read byte by byte: each byte behind letters", TextEdgesTest::everyByteBehindLetters);
        Checks.edge("read byte by byte: each byte behind a NUMBER", TextEdgesTest::everyByteBehindNumber);
        Checks.edge("read byte by byte: each byte behind ;", TextEdgesTest::everyByteBehindStop);
        Checks.edge("letters a .. z side by side are one TOKEN", () -> {
            fault("ww0;", 0);
            fault("w0;wz0;", 3);
            fault("w0;aw0;", 3);
            fault("w w0;", 2);
        });
        Checks.edge("letters that begin no ITEM", () -> {
            for (char c = 'a'; c <= 'z'; c++) {
                fault("  " + c, "wsckd".indexOf(c) >= 0 ? 3 : 2);
            }
        });
        Checks.edge("a byte that begins no TOKEN: its place", () -> {
            fault("w0 A", 3);
            fault("w0;w0;s0 1 -1 0 0;", 11);
            fault("w" + (char) 0 + "0;", 1);
            fault("w0;w0;d0 1 " + (char) 255, 11);
        });
        Checks.edge("a NUMBER above 99: that TOKEN's place", () -> {
            fault("w 100;", 2);
            fault("w0;w0;d0 1 100;", 11);
            fault("w0;100;", 3);
            fault("w0 999", 3);
        });
        Checks.edge("a NUMBER above 99, as long as a text", () -> fault("w" + "1".repeat(199), 1));
        Checks.edge("a NUMBER above 99 that wraps around to a lower one", () -> {
            fault("w 4294967296;", 2);
            fault("w 4294967297;", 2);
            fault("w 18446744073709551617;", 2);
            fault("w0;w0;d0 1 65541;", 11);
            fault("w0;w0;d0 1 261;", 11);
        });
        Checks.edge("a NUMBER with a 0 ahead of others: that TOKEN's place", () -> {
            fault("w 00;", 2);
            fault("w 01;", 2);
            fault("w0;w0;d0 1 05;", 11);
            fault("w0;w0;d0 1 000;", 11);
            fault("w0;w0;d00 1 5;", 7);
        });
        Checks.edge("a 0 that stands alone is a NUMBER, behind others too", () -> {
            tells("w0;w0;d0 1 0;", 3);
            tells("w0;w0;d0 1 10;d1 0 60;", 4);
        });
    }

    private static void faults() {
        Checks.edge("the text's length, if it ends too early", () -> {
            for (int length = 0; length <= ITEMS.length(); length++) {
                String text = ITEMS.substring(0, length);
                boolean whole = text.isEmpty() || text.endsWith(";");
                tells(text, whole ? text.chars().filter(c -> c == ';').count() : -10 - length);
            }
        });
        Checks.edge("the text's length, with the blanks behind its last TOKEN", () -> {
            fault("w   ", 4);
            fault("w0 ", 3);
            fault("w0;s0  ", 7);
            fault("w0;w0;s0  ", 10);
        });
        Checks.edge("the first TOKEN that can't stand there, of several", () -> {
            fault("w0;x w2; #", 3);
            fault("w2 # 100", 1);
            fault("w0;w0;s1 1 0 2 9", 9);
            fault("w0;c0 21 0;", 6);
        });
        Checks.edge("ITEMS, each ended by ;", () -> {
            fault("w0 w0;", 3);
            fault("w0;w0;s0 1 1 0 0 0;", 17);
            fault("w0;w0;s0 1 1 0 0 s", 17);
            fault("w0;c0 0 1 1;", 10);
            fault("w0;c0 0 1;k0 0 1 1;", 17);
            fault("w0;w0;d0 1 1 d", 13);
        });
        Checks.edge("an ITEM begins by letters, and not by ;", () -> {
            fault(";", 0);
            fault("w0;;", 3);
        });
        Checks.edge("an ITEM begins by letters, and not by a NUMBER", () -> {
            for (int n = 0; n <= 100; n++) {
                fault("w0;" + n + " 0 0 1;", 3);
            }
        });
        Checks.edge("a NUMBER is due, and not letters", () -> {
            fault("w w;", 2);
            fault("w ww;", 2);
            fault("w0;w0;s0 dd 1 0 0;", 9);
            fault("w0;c a 0 1;", 5);
            fault("w0;c0 zz 1;", 6);
        });
        Checks.edge("an ITEM has all its NUMBERS", () -> {
            fault("w;", 1);
            fault("w0;w0;s0 1 1 0;", 14);
            fault("w0;w0;s0;", 8);
            fault("w0;c0 0;", 7);
            fault("w0;c0 0 1;k0 0;", 14);
            fault("w0;w0;d0 1;", 10);
            fault("w0;w0;d0 d1;", 9);
        });
    }

    private static void nothingIsThere() {
        WellKnots x = new WellKnots();
        for (int what = 0; what < 6; what++) {
            Checks.due("count(" + what + ")", x.count(what), 0);
            Checks.due("now(" + what + ")", x.now(what), 0);
        }
        Checks.due("stage", x.stage(0, 0), -1);
        Checks.due("caravan", x.caravan(0, 0), -1);
        Checks.due("well", x.well(0, 0), -1000000);
        Checks.due("mark", x.mark(0, 0), -1000000);
    }

    private static void nothingIsDone() {
        Twins.refused("undo()", WellKnots::new, x -> x.undo(), -2);
        Twins.refused("back(0)", WellKnots::new, x -> x.back(0), -2);
        Twins.refused("back(1)", WellKnots::new, x -> x.back(1), -2);
        Twins.refused("strikes()", WellKnots::new, x -> x.strikes(), -2);
        Twins.refused("ring(-1)", WellKnots::new, x -> x.ring(-1), -9);
        Twins.refused("forget()", WellKnots::new, x -> x.forget(), 0);
        Twins.refused("stones(0)", WellKnots::new, x -> x.stones(0), 0);
        Twins.refused("stones(1)", WellKnots::new, x -> x.stones(1), 0);
        Twins.refused("trace()", WellKnots::new, x -> x.trace(), 0);
    }

    /** The last of its 200 bytes ends an item, so a byte more would be seen by what it tells. */
    private static WellKnots fullText() {
        WellKnots x = Checks.told(ITEMS);
        Checks.type(x, " ".repeat(194) + "w1;w1;");
        return x;
    }

    private static void toldBehindFault() {
        String faulty = "w1;w1;w1;s2 0 9 1 1;c2 9 9;c2 9 9;k1 0 9;k0 1 8;d0 1 5;d1 0 3;x";
        Twins.alike("a text behind a fault", () -> {
            WellKnots x = new WellKnots();
            Checks.due("road()", Checks.tell(x, faulty), -10 - 62);
            Checks.tell(x, ITEMS);
            return x;
        }, () -> Checks.told(ITEMS));
    }

    private static void readAnew() {
        Supplier<WellKnots> anew = () -> {
            WellKnots x = Twins.rich();
            Checks.tell(x, ITEMS);
            return x;
        };
        Twins.alikeButTrace("read anew", anew, () -> Checks.told(ITEMS));
        Checks.due("THE TRACE is not of what is told", anew.get().trace(), 10101);
    }

    private static void everyByteBehindLetters() {
        for (int c = 0; c < 256; c++) {
            String text = "w" + (char) c + "0;";
            if (c == 32) {
                tells(text, 1);
            } else {
                fault(text, c >= 'a' && c <= 'z' ? 0 : 1);
            }
        }
    }

    private static void everyByteBehindNumber() {
        for (int c = 0; c < 256; c++) {
            String text = "w1" + (char) c + ";";
            if (c == 32) {
                tells(text, 1);
            } else if (c == ';') {
                fault(text, 3);
            } else {
                fault(text, c >= '0' && c <= '9' ? 1 : 2);
            }
        }
    }

    private static void everyByteBehindStop() {
        for (int c = 0; c < 256; c++) {
            String text = "w0;" + (char) c;
            if (c == 32) {
                tells(text, 1);
            } else {
                fault(text, "wsckd".indexOf(c) >= 0 ? 4 : 3);
            }
        }
    }

    private static void tells(String text, long due) {
        Checks.due("road() of '" + text + "'", Checks.tell(new WellKnots(), text), due);
    }

    /** The fault's place; nothing has changed then, on a new object and on one that was told something. */
    private static void fault(String text, int place) {
        Twins.refused("road() of '" + text + "'", () -> {
            WellKnots x = new WellKnots();
            Checks.type(x, text);
            return x;
        }, x -> x.road(), -10 - place);
        Checks.due("road() of '" + text + "', read anew", Checks.tell(Checks.told(ITEMS), text), -10 - place);
    }
}

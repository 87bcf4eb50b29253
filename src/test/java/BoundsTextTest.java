/** Each sentence that names a bound of the TAPE, of a LUNCH, of LAWS and of their FAULTS. */
public final class BoundsTextTest {
    private static final int NONE = Due.NONE;

    /** Kind and letter of each ITEM, its least, its most, and what stands without it. */
    private static final String[] ITEMS = {"sw", "sh", "sp", "ss", "sb", "sa", "fc", "ft", "fi", "fd", "mc", "ms", "dn",
        "dw"};
    private static final int[] LEAST = {1, 1, 1, 0, 50, 30, 0, 1, 0, 0, 0, 0, 1, 0};
    private static final int[] MOST = {5, 5, 9, 9, 99, 90, 24, 9, 99, 49, 24, 20, 30, 9};
    private static final int[] USUAL = {4, 4, 4, 2, 95, 70, 0, 3, 0, 10, 0, 3, 9, 1};

    public static void main(String[] args) {
        tapeHolds240();
        tapeEnds();
        sortsOfFaults();
        numbersOfItems();
        digitsOfItems();
        usualItems();
        itemsInAnyOrder();
        itemsOnceAtMost();
        ovensOneAtMost();
        foodsOneToTwelve();
        placesNoneToSix();
        dishesNoneToSix();
        clausesInAnyOrder();
        cellsOfThePlate();
        twoInOneCell();
        lunchEndsTooEarly();
        lunchSigns();
        blanks();
        readAgain();
        lawSigns();
        lawClauses();
        lawDigits();
        lawConditions();
        sixWithinOneAnother();
        withinAMillion();
        cutsTowardsNought();
        worth();
        lunchIsTaken();
        lunchTakesTheOtherAway();
        fourLaws();
        Due.end();
    }

    // ---- the TAPE

    private static void tapeHolds240() {
        Due.sentence("feed: Twenty bytes more come to the TAPE; NONE: more than 240");
        ColdMiddle x = new ColdMiddle();
        Due.due("feed of nothing to nothing", x.feed(0, 0, 0, 0, 0), 0);
        for (int i = 1; i <= 12; i++) {
            Due.due("feed " + i, x.feed(-1, -1, -1, -1, -1), 20 * i);
        }
        Due.due("feed of twenty to 240", x.feed(-1, -1, -1, -1, -1), NONE);
        Due.due("feed of one to 240", x.feed(0, 0, 0, 0, 1), NONE);
        Due.due("feed of one ahead to 240", x.feed(Integer.MIN_VALUE, 0, 0, 0, 0), NONE);
        Due.due("feed of nothing to 240", x.feed(0, 0, 0, 0, 0), 240);
        Due.due("count(4)", x.count(4), 240);
        for (int more = 1; more <= 20; more++) {
            String text = "\u00ff".repeat(more);
            x.end(240 - more);
            Due.due("feed of " + more + " up to 240", Due.write(x, text), 240);
            x.end(241 - more);
            Due.due("feed of " + more + " up to 241", Due.write(x, text), NONE);
            Due.due("count(4), nothing of it came", x.count(4), 241 - more);
        }
        Due.sentence("feed: what is refused changes nothing");
        x.end(0);
        Due.write(x, "f" + " ".repeat(235));
        Due.due("feed of five", x.feed(0x78000000, 0x78000000, 0x78000000, 0x78, 0x78), NONE);
        Due.due("feed of four", x.feed(0x20000000, 0x20000000, 0x20, 0x20, 0), 240);
        Due.due("fault(0)", x.fault(0), NONE);
        Due.due("text(0) of 240 bytes", x.text(0), 1);
        Due.due("count(4)", x.count(4), 0);

        Due.sentence("feed: of each number the highest first; bytes of 0 are left out");
        ColdMiddle y = new ColdMiddle();
        Due.due("feed of the largest", y.feed(Integer.MAX_VALUE, 0, 0, 0, 0), 4);
        Due.due("feed of the smallest", y.feed(Integer.MIN_VALUE, 0, 0, 0, 0), 5);
        y.end(0);
        Due.due("feed, zeros between", y.feed(0x66000063, 0x00003200, 0x00340000, 0x3b000000, 0x73007700), 7);
        Due.due("feed, zeros ahead", y.feed(0, 0, 0, 0, 0x00356835), 10);
        Due.due("text(0) of fc24;sw5h5", y.text(0), 1);
        Due.due("spot(24,1)", Due.thick(y, 24), 3);
        for (int at = 0; at < 20; at++) {
            int[] five = new int[5];
            five[at / 4] = 0x78 << (24 - 8 * (at % 4));
            y.end(0);
            Due.due("feed of the byte " + at, y.feed(five[0], five[1], five[2], five[3], five[4]), 1);
        }
    }

    private static void tapeEnds() {
        Due.sentence("end: The TAPE has its first n bytes alone; False: n");
        ColdMiddle x = new ColdMiddle();
        Due.due("end(0) of nothing", x.end(0), true);
        Due.due("end(1) of nothing", x.end(1), false);
        Due.due("end(-1) of nothing", x.end(-1), false);
        Due.write(x, "fc1t2");
        Due.due("end(6) of five", x.end(6), false);
        Due.due("end(5) of five", x.end(5), true);
        Due.due("count(4)", x.count(4), 5);
        Due.due("end(-1)", x.end(-1), false);
        for (int far : Due.FAR) {
            Due.due("end(" + far + ")", x.end(far), false);
        }
        Due.due("fault(0)", x.fault(0), NONE);
        Due.due("end(4)", x.end(4), true);
        Due.due("fault(0)", x.fault(0), 4);
        Due.due("end(5), it is gone", x.end(5), false);
        Due.due("end(1)", x.end(1), true);
        Due.due("fault(0)", x.fault(0), NONE);
        Due.due("end(0)", x.end(0), true);
        Due.due("fault(0)", x.fault(0), 0);
        Due.write(x, " ".repeat(240));
        Due.due("end(241)", x.end(241), false);
        Due.due("end(240)", x.end(240), true);
        Due.due("end(239)", x.end(239), true);
        Due.due("count(4)", x.count(4), 239);
    }

    private static void sortsOfFaults() {
        Due.sentence("fault: NONE: none. -2: no such sort");
        for (String text : new String[] {"", "f", "y:1"}) {
            ColdMiddle x = Due.written(text);
            Due.due("fault(-1)", x.fault(-1), -2);
            Due.due("fault(2)", x.fault(2), -2);
            Due.due("fault(-2)", x.fault(-2), -2);
            for (int far : Due.FAR) {
                Due.due("fault(" + far + ")", x.fault(far), -2);
            }
            Due.due("fault(0) of \"" + text + "\"", x.fault(0), text.equals("f") ? NONE : 0);
            Due.due("fault(1) of \"" + text + "\"", x.fault(1), text.equals("y:1") ? NONE : 0);
            Due.due("count(4), FAULTS leave it", x.count(4), text.length());
        }
    }

    // ---- a LUNCH

    /** A LUNCH whose last clause is of this kind. */
    private static String upTo(char kind) {
        return kind == 'f' ? "sw5h5;f" : kind == 's' ? "f;s" : kind == 'm' ? "f;sw5h5;m" : "f;d";
    }

    /** What was told by an ITEM, where it is the one of its clause that was given. */
    private static int told(ColdMiddle x, int item, int value) {
        switch (ITEMS[item]) {
            case "fc":
                return Due.thick(x, value) == 3 ? value : NONE;
            case "ft":
                return Due.thick(x, 0);
            case "fi":
                return Due.ice(x, 0);
            case "fd":
                return Due.degrees(x, 0);
            case "mc":
                return Due.spot(x, value, 0) == 3 ? value : NONE;
            case "ms":
                return Due.spot(x, 0, 0);
            case "dn":
                return x.dish(0, 0);
            case "dw":
                return x.dish(0, 1);
            default:
                return x.oven(item);
        }
    }

    private static void numbersOfItems() {
        for (int item = 0; item < ITEMS.length; item++) {
            Due.sentence(ITEMS[item] + " (" + LEAST[item] + " .. " + MOST[item] + "); a number out of bounds is wrong at "
                    + "its last digit");
            char kind = ITEMS[item].charAt(0);
            for (int value = 0; value <= 99; value++) {
                boolean isIn = value >= LEAST[item] && value <= MOST[item];
                String ahead = upTo(kind) + ITEMS[item].charAt(1);
                String two = (value < 10 ? "0" : "") + value;
                Due.dueLunch(ahead + two, isIn ? NONE : ahead.length() + 1);
                Due.dueLunch(ahead + two + " ;x", isIn ? ahead.length() + 4 : ahead.length() + 1);
                if (value < 10) {
                    Due.dueLunch(ahead + value, isIn ? NONE : ahead.length());
                    Due.dueLunch(ahead + " " + value + ";", isIn ? ahead.length() + 3 : ahead.length() + 1);
                }
                if (isIn) {
                    Due.due(ahead + two, told(Due.lunch(ahead + two), item, value), value);
                } else {
                    Due.due("text(0) of " + ahead + two, Due.written(ahead + two).text(0), NONE);
                }
            }
        }
    }

    private static void digitsOfItems() {
        Due.sentence("a number (one or two digits): a third digit itself, whatever stands ahead of it");
        for (String item : ITEMS) {
            String ahead = upTo(item.charAt(0)) + item.charAt(1);
            for (String three : new String[] {"000", "001", "010", "050", "100", "123", "500", "999", "0000", "1234"}) {
                Due.dueLunch(ahead + three, ahead.length() + 2);
                Due.dueLunch(ahead + " " + three + ";", ahead.length() + 3);
            }
            Due.dueLunch(ahead, ahead.length());
            Due.dueLunch(ahead + "  ", ahead.length() + 2);
            Due.dueLunch(ahead + ";", ahead.length());
            Due.dueLunch(ahead + "-1", ahead.length());
        }
    }

    private static void usualItems() {
        Due.sentence("w WIDTH (4 without), h (4), p (4), s (2), b (95), a (70)");
        for (String text : new String[] {"f", "f;s", "s;f"}) {
            ColdMiddle x = Due.lunch(text);
            for (int what = 0; what < 6; what++) {
                Due.due("oven(" + what + ") of " + text, x.oven(what), USUAL[what]);
            }
        }
        Due.sentence("f: c CELL (0), t (3), i (0), d (10)");
        ColdMiddle f = Due.lunch("f");
        Due.due("THICK", Due.thick(f, 0), 3);
        Due.due("ICE", Due.ice(f, 0), 0);
        Due.due("DEGREES", Due.degrees(f, 0), 10);
        Due.due("BURST", Due.spot(f, 0, 5), 0);
        Due.sentence("m: c CELL (0), s its SHARE (3); SHARE of others: 10");
        ColdMiddle m = Due.lunch("f;m");
        Due.due("SHARE of 0", Due.spot(m, 0, 0), 3);
        for (int cell = 1; cell < 16; cell++) {
            Due.due("SHARE of " + cell, Due.spot(m, cell, 0), 10);
        }
        Due.due("SHARE without PLACES", Due.spot(f, 0, 0), 10);
        Due.sentence("d: n TENS (9), w how one minds (1)");
        ColdMiddle d = Due.lunch("f;d");
        Due.due("TENS", d.dish(0, 0), 9);
        Due.due("how one minds", d.dish(0, 1), 1);
        Due.sentence("ITEMS, none or more: each CLAUSE has what stands without it anew");
        ColdMiddle again = Due.lunch("sw2h1;fc1t9i9d9;f;mc1s20;m;dn30w9;d");
        Due.due("THICK of 0", Due.thick(again, 0), 3);
        Due.due("ICE of 0", Due.ice(again, 0), 0);
        Due.due("DEGREES of 0", Due.degrees(again, 0), 10);
        Due.due("SHARE of 0", Due.spot(again, 0, 0), 3);
        Due.due("TENS of 1", again.dish(1, 0), 9);
        Due.due("how one minds 1", again.dish(1, 1), 1);
        Due.write(again, "f");
        Due.due("text(0), another one", again.text(0), 1);
        Due.due("oven(0)", again.oven(0), 4);
        Due.due("oven(1)", again.oven(1), 4);
        Due.due("SHARE of 1", Due.spot(again, 1, 0), 10);
        Due.due("THICK of 1", Due.thick(again, 1), 0);
        Due.due("dish(0,0)", again.dish(0, 0), NONE);
    }

    private static void itemsInAnyOrder() {
        Due.sentence("then ITEMS, none or more, in any order");
        ColdMiddle x = Due.lunch("fd49i99t9c24;sa90b99s9p9h5w5;ms20c24;dw9n30");
        for (int what = 0; what < 6; what++) {
            Due.due("oven(" + what + "), the most", x.oven(what), MOST[what]);
        }
        Due.due("SHARE", Due.spot(x, 24, 0), 20);
        Due.due("THICK", Due.thick(x, 24), 9);
        Due.due("ICE", Due.ice(x, 24), 99);
        Due.due("DEGREES", Due.degrees(x, 24), 49);
        Due.due("TENS", x.dish(0, 0), 30);
        Due.due("how one minds", x.dish(0, 1), 9);
        ColdMiddle y = Due.lunch("dw0n1;ms0c0;sp1s0b50h1a30w1;ft1d0c0i0");
        for (int what = 0; what < 6; what++) {
            Due.due("oven(" + what + "), the least", y.oven(what), LEAST[what]);
        }
        Due.due("SHARE", Due.spot(y, 0, 0), 0);
        Due.due("THICK", Due.thick(y, 0), 1);
        Due.due("ICE", Due.ice(y, 0), 0);
        Due.due("DEGREES", Due.degrees(y, 0), 0);
        Due.due("TENS", y.dish(0, 0), 1);
        Due.due("how one minds", y.dish(0, 1), 0);
    }

    private static void itemsOnceAtMost() {
        Due.sentence("a letter, each once at most in a CLAUSE: a letter that was there, at it");
        for (int item = 0; item < ITEMS.length; item++) {
            char letter = ITEMS[item].charAt(1);
            String ahead = upTo(ITEMS[item].charAt(0));
            if (ITEMS[item].equals("mc") || ITEMS[item].equals("ms")) {
                ahead = "f;m";
            } else if (ITEMS[item].charAt(0) == 'f') {
                ahead = "f";
            }
            String once = ahead + letter + LEAST[item];
            Due.dueLunch(once, NONE);
            Due.dueLunch(once + letter, once.length());
            Due.dueLunch(once + " " + letter + LEAST[item], once.length() + 1);
        }
        Due.dueLunch("fc1t2i3d4c1", 9);
        Due.dueLunch("fc1t2i3d4d4", 9);
        Due.dueLunch("f;sw1h1p1s1b50a30a", 17);
        Due.dueLunch("f;mc1s1c", 7);
        Due.dueLunch("f;dn1w1w", 7);
        Due.dueLunch("fc1t2;fc2t2", NONE);
        Due.sentence("ITEMS of s: w h p s b a; of f: c t i d; of m: c s; of d: n w");
        for (char kind : "sfmd".toCharArray()) {
            String ahead = kind == 'f' ? "f" : "f;" + kind;
            for (char letter = 1; letter <= 255; letter++) {
                boolean isItem = false;
                for (String item : ITEMS) {
                    isItem = isItem || item.equals("" + kind + letter);
                }
                if (isItem || letter == ' ' || letter == ';') {
                    Due.dueLunch(ahead + letter, letter == ' ' ? NONE : ahead.length() + 1);
                } else {
                    Due.dueLunch(ahead + letter + "1", ahead.length());
                }
            }
        }
    }

    private static void ovensOneAtMost() {
        Due.sentence("s (the OVEN; one at most): a second s at it");
        Due.dueLunch("f", NONE);
        Due.dueLunch("s;f", NONE);
        Due.dueLunch("s;s;f", 2);
        Due.dueLunch("s;f;s", 4);
        Due.dueLunch("s;f; s", 5);
        Due.dueLunch("sw1h1;f;sw1h1", 8);
    }

    private static String foods(int n) {
        StringBuilder s = new StringBuilder("sw5h5");
        for (int cell = 0; cell < n; cell++) {
            s.append(";fc").append(2 * cell);
        }
        return s.toString();
    }

    private static void foodsOneToTwelve() {
        Due.sentence("f (FOOD in a CELL; 1 .. 12): without FOOD, the length; a 13th f at it");
        for (int n = 0; n <= 13; n++) {
            String text = foods(n);
            int want = n == 0 ? text.length() : n == 13 ? foods(12).length() + 1 : NONE;
            Due.dueLunch(text, want);
            ColdMiddle x = Due.written(text);
            Due.due("text(0) of " + n + " FOODS", x.text(0), n == 0 || n == 13 ? NONE : n);
            Due.due("count(1)", x.count(1), n == 0 || n == 13 ? 0 : n);
        }
        Due.dueLunch(foods(12) + "; f", foods(12).length() + 2);
        Due.dueLunch(foods(12) + ";", foods(12).length() + 1);
        Due.dueLunch(foods(12) + ";m;d", NONE);
        Due.dueLunch("s", 1);
        Due.dueLunch("m;d;sw5", 7);
        Due.dueLunch("d ", 2);
        // A 13th f though two of them stand in one CELL.
        Due.dueLunch("f;".repeat(12) + "f", 24);
        Due.dueLunch("f;".repeat(11) + "f", 23);
    }

    private static void placesNoneToSix() {
        Due.sentence("m (a PLACE that is not as others; none to 6): a seventh m at it");
        StringBuilder s = new StringBuilder("f");
        for (int n = 1; n <= 6; n++) {
            s.append(";mc").append(n).append("s").append(n);
            Due.dueLunch(s.toString(), NONE);
            ColdMiddle x = Due.lunch(s.toString());
            Due.due("SHARE of the last", Due.spot(x, n, 0), n);
            Due.due("SHARE of the next", Due.spot(x, n + 1, 0), 10);
        }
        Due.dueLunch(s + ";m", s.length() + 1);
        Due.dueLunch(s + ";mc7", s.length() + 1);
        Due.dueLunch(s + ";d", NONE);
        Due.dueLunch("m;".repeat(6) + "m;f", 12);
        Due.dueLunch("m;".repeat(6) + "f", 13);
    }

    private static void dishesNoneToSix() {
        Due.sentence("d (a DISH of one who waits; none to 6): a seventh d at it");
        StringBuilder s = new StringBuilder("f");
        Due.due("count(2) of none", Due.lunch("f").count(2), 0);
        for (int n = 1; n <= 6; n++) {
            s.append(";dn").append(n).append("w").append(9 - n);
            ColdMiddle x = Due.lunch(s.toString());
            Due.due("count(2)", x.count(2), n);
            Due.due("TENS of the last", x.dish(n - 1, 0), n);
            Due.due("how one minds the last", x.dish(n - 1, 1), 9 - n);
            Due.due("dish behind the last", x.dish(n, 0), NONE);
        }
        Due.dueLunch(s.toString(), NONE);
        Due.dueLunch(s + ";d", s.length() + 1);
        Due.dueLunch(s + "; d", s.length() + 2);
        Due.dueLunch(s + ";m", NONE);
        Due.dueLunch("d;".repeat(7) + "f", 12);
        Due.dueLunch("d;".repeat(6) + "f", NONE);
    }

    private static void clausesInAnyOrder() {
        Due.sentence("CLAUSES with ; between, in any order");
        String[] clauses = {"sw3h1", "fc2d11", "mc2s4", "dn7w2"};
        for (int a = 0; a < 4; a++) {
            for (int b = 0; b < 4; b++) {
                for (int c = 0; c < 4; c++) {
                    int d = 6 - a - b - c;
                    if (a != b && a != c && b != c) {
                        ColdMiddle x = Due.lunch(clauses[a] + ";" + clauses[b] + ";" + clauses[c] + ";" + clauses[d]);
                        Due.due("count(0)", x.count(0), 3);
                        Due.due("DEGREES", Due.degrees(x, 2), 11);
                        Due.due("SHARE", Due.spot(x, 2, 0), 4);
                        Due.due("TENS", x.dish(0, 0), 7);
                    }
                }
            }
        }
    }

    private static void cellsOfThePlate() {
        Due.sentence("CELLS: row by row, WIDTH to a row; a CELL that is not of the plate: the length");
        for (int width = 1; width <= 5; width++) {
            for (int height = 1; height <= 5; height++) {
                int cells = width * height;
                String oven = "sw" + width + "h" + height;
                ColdMiddle x = Due.lunch(oven + ";fc" + (cells - 1));
                Due.due("count(0) of " + oven, x.count(0), cells);
                Due.due("THICK of the last", Due.thick(x, cells - 1), 3);
                Due.due("spot behind the last", Due.spot(x, cells, 0), Due.THROWN);
                Due.dueLunch("f;mc" + (cells - 1) + ";" + oven, NONE);
                if (cells <= 24) {
                    String food = "fc" + cells + ";" + oven;
                    Due.dueLunch(food, food.length());
                    Due.dueLunch(food + " ", food.length() + 1);
                    Due.dueLunch(food + ";x", food.length() + 1);
                    String place = oven + ";f;mc" + cells;
                    Due.dueLunch(place, place.length());
                }
            }
        }
        Due.dueLunch("fc15", NONE);
        Due.dueLunch("fc16", 4);
        Due.dueLunch("f;mc15", NONE);
        Due.dueLunch("f;mc16", 6);
        Due.dueLunch("fc16;s", 6);
        Due.dueLunch("fc24;sw5h5", NONE);
        // Rows: EDGES tell what is beside.
        Due.due("EDGES, next in the row", Due.spot(Due.lunch("sw3h2;fc1;fc2"), 1, 4), 3);
        Due.due("EDGES, next in number of the next row", Due.spot(Due.lunch("sw3h2;fc2;fc3"), 2, 4), 4);
        Due.due("EDGES, below", Due.spot(Due.lunch("sw3h2;fc2;fc5"), 2, 4), 3);
        Due.due("EDGES, below aside", Due.spot(Due.lunch("sw3h2;fc2;fc4"), 2, 4), 4);
    }

    private static void twoInOneCell() {
        Due.sentence("two FOODS or two PLACES in one CELL: the length");
        Due.dueLunch("f;f", 3);
        Due.dueLunch("f;fc0", 5);
        Due.dueLunch("f;fc00 ", 7);
        Due.dueLunch("fc3;f;fc3", 9);
        Due.dueLunch("f;m;m", 5);
        Due.dueLunch("m;f;mc0", 7);
        Due.dueLunch("mc3;f;mc3s10", 12);
        Due.dueLunch("f;f;x", 4);
        Due.dueLunch("f;f;s;d", 7);
        Due.dueLunch("ft1;ft1", 7);
        Due.dueLunch("fd0t1;fd0t9", 11);
        Due.dueLunch("f;ms10;ms10", 11);
        Due.dueLunch("f;ms0;ms0", 9);
        Due.dueLunch("f;m", NONE);
        Due.dueLunch("fc1;mc1;f;m", NONE);
        ColdMiddle x = Due.written("f;f");
        Due.due("text(0)", x.text(0), NONE);
        x.end(1);
        Due.due("text(0), the FAULT is gone", x.text(0), 1);
    }

    private static void lunchEndsTooEarly() {
        Due.sentence("the length, if it ends too early");
        Due.dueLunch("", 0);
        Due.dueLunch(" ", 1);
        Due.dueLunch(" ".repeat(240), 240);
        Due.dueLunch("f;", 2);
        Due.dueLunch("f; ", 3);
        Due.dueLunch("f;s;", 4);
        Due.dueLunch("fc", 2);
        Due.dueLunch("fc ", 3);
        Due.dueLunch("f" + " ".repeat(238) + ";", 240);
        Due.dueLunch("f" + " ".repeat(239), NONE);
        Due.dueLunch(" ".repeat(239) + "f", NONE);
        Due.dueLunch(" ".repeat(239) + "s", 240);
    }

    /** What each byte does behind a text: at it where it can't go on; else NONE or the length. */
    private static void dueBytes(int sort, String ahead, String ends, String goesOn) {
        for (char sign = 1; sign <= 255; sign++) {
            int want = ends.indexOf(sign) >= 0 ? NONE : goesOn.indexOf(sign) >= 0 ? ahead.length() + 1 : ahead.length();
            Due.dueFault(sort, ahead + sign, want);
        }
    }

    private static void lunchSigns() {
        Due.sentence("FAULT of a LUNCH: the first byte at which no such TEXT can go on");
        dueBytes(0, "", "f", "smd ");
        dueBytes(0, "  ", "f", "smd ");
        dueBytes(0, "f", " ", "ctid;");
        dueBytes(0, "f ", " ", "ctid;");
        dueBytes(0, "f;", "smd", "f ");
        dueBytes(0, "f;s", " ", "whpsba;");
        dueBytes(0, "f;m", " ", "cs;");
        dueBytes(0, "f;d", " ", "nw;");
        dueBytes(0, "fd", "0123456789", " ");
        dueBytes(0, "fd ", "0123456789", " ");
        dueBytes(0, "fd1", " 0123456789", "cti;");
        dueBytes(0, "fd12", " ", "cti;");
        dueBytes(0, "fd1 ", " ", "cti;");
        dueBytes(0, "f;s;", "md", "f ");
    }

    private static void blanks() {
        Due.sentence("Blanks (32) may stand between all signs of both, not within numbers");
        String lunch = "  s  w 2  h 01  ;  f  c  1 t 1 i 12 d 34  ;  m c 1 s 20 ; d  n 30  w 9  ";
        Due.dueLunch(lunch, NONE);
        ColdMiddle x = Due.lunch(lunch);
        Due.due("count(0)", x.count(0), 2);
        Due.due("ICE", Due.ice(x, 1), 12);
        Due.due("DEGREES", Due.degrees(x, 1), 34);
        Due.due("SHARE", Due.spot(x, 1, 0), 20);
        Due.due("TENS", x.dish(0, 0), 30);
        Due.dueLunch("fd1 2", 4);
        Due.dueLunch("fd1  2", 5);
        Due.dueLunch("fd1 234", 4);
        Due.dueLaw("  y  :  !  (  p  =  12  |  [  m  ]  <  3  )  &  1  >  0  ?  5  +  t  *  2  ;  y  :  1  ", NONE);
        Due.dueLaw("y:1 2", 4);
        Due.dueLaw("y:12  34", 6);
        Due.dueLaw("y:1=1 1", 6);
        for (char other : new char[] {9, 10, 13, 11, 12, 31, 33, 127, 160, 255}) {
            if (other != '!') {
                Due.dueLunch(other + "f", 0);
                Due.dueLunch("f" + other, 1);
                Due.dueLaw("y:" + other + "1", 2);
                Due.dueLaw("y:1" + other, 3);
            }
        }
    }

    /** The FAULT is asked for three times, then the LUNCH is told. */
    private static void tell(ColdMiddle x, String text, int foods, int places, int dishes) {
        x.end(0);
        Due.write(x, text);
        for (int i = 0; i < 3; i++) {
            Due.due("fault(0) of \"" + text + "\"", x.fault(0), NONE);
        }
        Due.due("text(0) of \"" + text + "\"", x.text(0), foods);
        Due.due("count(1)", x.count(1), foods);
        Due.due("count(2)", x.count(2), dishes);
        int others = 0;
        int cells = x.count(0);
        for (int cell = 0; cell < cells; cell++) {
            others += Due.spot(x, cell, 0) == 10 ? 0 : 1;
        }
        Due.due("PLACES", others, places);
    }

    private static void readAgain() {
        Due.sentence("FAULT: asked again it is the same; all that was of another LUNCH is gone");
        ColdMiddle x = new ColdMiddle();
        for (int i = 0; i < 2; i++) {
            tell(x, "sw5h5;fc24;mc24;d;d", 1, 1, 2);
            tell(x, "f;m;d", 1, 1, 1);
            tell(x, "f", 1, 0, 0);
            tell(x, foods(12), 12, 0, 0);
            tell(x, "d;d;d;d;d;d;m;mc1;mc2;mc3;mc4;mc5;f", 1, 6, 6);
            tell(x, "sw1h1;ft1i1d0", 1, 0, 0);
        }
        String[] faults = {"sw5h5p1s0b50a30;fc24;mc24;d;x", "sw1h1;ft9i9d9;fc1", "f;f", "s;s", "d;d;d;d;d;d;d"};
        int[] want = {28, 17, 3, 2, 12};
        x = new ColdMiddle();
        for (int i = 0; i < faults.length; i++) {
            x.end(0);
            Due.write(x, faults[i]);
            Due.due("fault(0) of \"" + faults[i] + "\"", x.fault(0), want[i]);
            Due.due("text(0) of \"" + faults[i] + "\"", x.text(0), NONE);
            Due.due("fault(0) again", x.fault(0), want[i]);
            tell(x, "f;m", 1, 1, 0);
            for (int what = 0; what < 6; what++) {
                Due.due("oven(" + what + ") behind it", x.oven(what), USUAL[what]);
            }
            Due.due("THICK behind it", Due.thick(x, 0), 3);
            Due.due("ICE behind it", Due.ice(x, 0), 0);
            Due.due("DEGREES behind it", Due.degrees(x, 0), 10);
        }
        Due.sentence("FAULT of a LUNCH that is not told changes nothing of the one that is");
        tell(x, "sw2h1p9s0;fd5;fc1i9;mc1s20;dn3", 2, 1, 1);
        Due.write(x, "sw1h1p1;fd49;d;d;d");
        Due.due("fault(0)", x.fault(0), NONE);
        Due.due("count(0)", x.count(0), 2);
        Due.due("oven(2)", x.oven(2), 9);
        Due.due("dish(0,0)", x.dish(0, 0), 3);
        Due.due("count(2)", x.count(2), 1);
        Due.due("spot(1,0)", Due.spot(x, 1, 0), 20);
        Due.due("next(0,9)", x.next(0, 9), 5 + 9 + 3);
        x.set(1, 0, true);
        Due.due("how(NONE)", x.how(NONE), 180);
        Due.sentence("FAULT of a LAW, then another one: nothing of the first is left");
        ColdMiddle y = Due.lunch("sw1h1;fd10");
        for (String law : new String[] {"y:1=1?7+", "y:9;x", "y:[[[9", "y:!!9=9", "y:99999"}) {
            y.end(0);
            Due.write(y, law);
            Due.due("fault(1) of " + law, y.fault(1) >= 0, true);
            Due.due("text(1) of " + law, y.text(1), NONE);
        }
        y.end(0);
        Due.write(y, "y:5");
        Due.due("fault(1)", y.fault(1), NONE);
        Due.due("fault(1) again", y.fault(1), NONE);
        Due.due("text(1)", y.text(1), 0);
        Due.write(y, "y:1=2?9;y:e+2");
        Due.due("fault(1) of another one", y.fault(1), NONE);
        y.law(0);
        Due.due("next(0,1) by the first", y.next(0, 1), 15);
        Due.due("text(1)", y.text(1), 1);
        Due.due("next(0,1) by the first still", y.next(0, 1), 15);
        y.law(1);
        Due.due("next(0,1) by the other", y.next(0, 1), 16);
    }

    // ---- LAWS

    private static final String DIGITS = "0123456789";

    private static void lawSigns() {
        Due.sentence("FAULT of a LAW: the first byte at which no such TEXT can go on");
        String atoms = "pmtide" + DIGITS;
        dueBytes(1, "", "", "y ");
        dueBytes(1, "y", "", ": ");
        dueBytes(1, "y:", atoms, "![( ");
        dueBytes(1, "y: ", atoms, "![( ");
        dueBytes(1, "y:p", " ", "+-*/=<>;");
        dueBytes(1, "y:1", " " + DIGITS, "+-*/=<>;");
        dueBytes(1, "y:1 ", " ", "+-*/=<>;");
        dueBytes(1, "y:p+", atoms, "[ ");
        dueBytes(1, "y:p/", atoms, "[ ");
        dueBytes(1, "y:p+m", " ", "+-*/=<>;");
        dueBytes(1, "y:[", "", atoms + "[ ");
        dueBytes(1, "y:[p", "]", "+-*/ ");
        dueBytes(1, "y:[p]", " ", "+-*/=<>;");
        dueBytes(1, "y:!", "", atoms + "![( ");
        dueBytes(1, "y:!p", "", "+-*/=<> ");
        dueBytes(1, "y:!p=1", "", "+-*/&|? " + DIGITS);
        dueBytes(1, "y:(", "", atoms + "![( ");
        dueBytes(1, "y:(p", "", "+-*/=<> ");
        dueBytes(1, "y:(p<t", "", "+-*/&|) ");
        dueBytes(1, "y:(p<t)", "", "&|? ");
        dueBytes(1, "y:p=", "", atoms + "[ ");
        dueBytes(1, "y:p=t", "", "+-*/&|? ");
        dueBytes(1, "y:p=t&", "", atoms + "![( ");
        dueBytes(1, "y:p=t|", "", atoms + "![( ");
        dueBytes(1, "y:p=t|(t<1", "", "+-*/&|) " + DIGITS);
        dueBytes(1, "y:p=t?", atoms, "[ ");
        dueBytes(1, "y:p=t?e", " ", "+-*/;");
        dueBytes(1, "y:1;", "", "y ");
        dueBytes(1, "y:1;y", "", ": ");
        dueBytes(1, "y:1;y:", atoms, "![( ");
    }

    private static void lawClauses() {
        Due.sentence("CLAUSES with ; between, one at least");
        Due.dueLaw("", 0);
        Due.dueLaw("   ", 3);
        Due.dueLaw("y:1", NONE);
        Due.dueLaw(";y:1", 0);
        Due.dueLaw("y:1;", 4);
        Due.dueLaw("y:1;;", 4);
        Due.dueLaw("y:1;y:2;y:3", NONE);
        String sixty = "y:1;".repeat(59) + "y:12";
        Due.due("bytes of sixty CLAUSES", sixty.length(), 240);
        Due.dueLaw(sixty, NONE);
        Due.dueLaw("y:1;".repeat(60), 240);
        Due.dueLaw("y:" + "1+".repeat(118) + "12", NONE);
        Due.dueLaw("y:" + "1+".repeat(119), 240);
        Due.dueLaw("y:" + "1*".repeat(118) + "1", NONE);
        Due.dueLaw("y:" + "1=1&".repeat(58) + "1=1?1", NONE);
        Due.dueLaw("y:" + "1=1|".repeat(58) + "1=1?1", NONE);
        Due.dueLaw("y:" + "!1=1|".repeat(46) + "1=1?1", NONE);
        Due.sentence("y : of 240 bytes reckons as any other");
        ColdMiddle x = Due.lunch("sw1h1;fd10", "y:0=1?1;".repeat(29) + "y:7");
        Due.due("next(0,1)", x.next(0, 1), 17);
        ColdMiddle sum = Due.lunch("sw1h1;fd10", "y:" + "1+".repeat(40) + "2");
        Due.due("next(0,1)", sum.next(0, 1), 52);
    }

    private static void lawDigits() {
        Due.sentence("a number (1 to 4 digits): a fifth one itself");
        for (String number : new String[] {"0", "9", "00", "99", "000", "999", "0000", "0001", "9999"}) {
            Due.dueLaw("y:" + number, NONE);
            Due.dueLaw("y:" + number + "=" + number + "?" + number, NONE);
        }
        for (String number : new String[] {"00000", "00001", "12345", "99999", "123456"}) {
            Due.dueLaw("y:" + number, 6);
            Due.dueLaw("y:p+ " + number, 9);
            Due.dueLaw("y:p=" + number + "?1", 8);
            Due.dueLaw("y:p=1?" + number, 10);
            Due.dueLaw("y:[" + number + "]", 7);
        }
        Due.sentence("a number (1 to 4 digits): its worth");
        dueSame("0012", "12");
        dueSame("9999", "99*101");
        dueSame("0000", "1-1");
    }

    private static void lawConditions() {
        Due.sentence("a CLAUSE that goes on with ! or ( behind its : has a CONDITION");
        Due.dueLaw("y:(1)", 4);
        Due.dueLaw("y:(1+2)*3", 6);
        Due.dueLaw("y:(1=1)", 7);
        Due.dueLaw("y:(1=1);y:1", 7);
        Due.dueLaw("y:(1=1)+1", 7);
        Due.dueLaw("y:(1=1)=1?1", 7);
        Due.dueLaw("y:!1", 4);
        Due.dueLaw("y:!1;", 4);
        Due.dueLaw("y:!1=1", 6);
        Due.dueLaw("y:!1=1;", 6);
        Due.dueLaw("y:!1=1?1", NONE);
        Due.dueLaw("y:(1=1)?1", NONE);
        Due.sentence("perhaps CONDITION ?, then SUM");
        Due.dueLaw("y:?1", 2);
        Due.dueLaw("y:1?1", 3);
        Due.dueLaw("y:1=1", 5);
        Due.dueLaw("y:1=1?", 6);
        Due.dueLaw("y:1=1?1?1", 7);
        Due.dueLaw("y:1=1?(1)", 6);
        Due.dueLaw("y:1=1?!1=1", 6);
        Due.dueLaw("y:1<2>3?1", 5);
        Due.dueLaw("y:1&1=1?1", 3);
        Due.dueLaw("y:1|1=1?1", 3);
        Due.dueLaw("y:[1=1]?1", 4);
        Due.dueLaw("y:[1]=1?1", NONE);
        Due.dueLaw("y:1=(1)?1", 4);
        Due.dueLaw("y:1=!1?1", 4);
    }

    /** The LAW that these signs open, closed again: as many [ last as there are. */
    private static String within(String opens, String core) {
        StringBuilder s = new StringBuilder("y:" + opens + core);
        for (int i = opens.length() - 1; i >= 0 && opens.charAt(i) == '['; i--) {
            s.append(']');
        }
        if (opens.indexOf('!') >= 0 || opens.indexOf('(') >= 0) {
            s.append("=1");
            for (int i = 0; i < opens.length(); i++) {
                s.append(opens.charAt(i) == '(' ? ")" : "");
            }
            s.append("?1");
        }
        return s.toString();
    }

    private static void sixWithinOneAnother() {
        Due.sentence("At most six of ( [ ! within one another: a seventh at it");
        for (int depth = 1; depth <= 6; depth++) {
            for (int brackets = 0; brackets <= depth; brackets++) {
                int free = depth - brackets;
                for (int bits = 0; bits < 1 << free; bits++) {
                    StringBuilder opens = new StringBuilder();
                    for (int i = 0; i < free; i++) {
                        opens.append((bits >> i & 1) == 1 ? '(' : '!');
                    }
                    opens.append("[".repeat(brackets));
                    Due.dueLaw(within(opens.toString(), "1"), NONE);
                    int seventh = depth == 6 ? 8 : NONE;
                    Due.dueLaw(within(opens + "[", "1"), seventh);
                    if (brackets == 0) {
                        Due.dueLaw(within(opens + "!", "1"), seventh);
                        Due.dueLaw(within(opens + "(", "1"), seventh);
                    }
                }
            }
        }
        // On the right of a sign, too; one that is closed again does not count.
        Due.dueLaw("y:1+[[[[[[1]]]]]]", NONE);
        Due.dueLaw("y:1+[[[[[[[1", 10);
        Due.dueLaw("y:1=[[[[[[1]]]]]]?1", NONE);
        Due.dueLaw("y:1=[[[[[[[1", 10);
        Due.dueLaw("y:[[[[[[1]]]]]]=[[[[[[1]]]]]]?1", NONE);
        Due.dueLaw("y:1=1&!!!!!!1=1?1", NONE);
        Due.dueLaw("y:1=1|((((((1=1))))))?1", NONE);
        Due.dueLaw("y:1=1&[[[[[[1]]]]]]=1?1", NONE);
        Due.dueLaw("y:1=1&!!!!!!!1=1?1", 12);
        Due.dueLaw("y:!!!!!1=[1]?1", NONE);
        Due.dueLaw("y:!!!!!1=[[1]]?1", 10);
        Due.dueLaw("y:!!!!!!1=[1]?1", 10);
        Due.dueLaw("y:!!!!!!1=1&[1]=1?1", NONE);
        Due.dueLaw("y:!!!!!!1=1|!!!!!!1=1?1", NONE);
        Due.dueLaw("y:!!!!!!1=1|!!!!!!!1=1?1", 18);
        Due.dueLaw("y:((((((1=1)&(1=1))))))?1", NONE);
        Due.dueLaw("y:((((((1=1&(1=1", 12);
        Due.dueLaw("y:[[[[[[1]]]]]]+[[[[[[1]]]]]]", NONE);
        Due.dueLaw("y:[[[[[[1]+[1]]]]]]", NONE);
        Due.dueLaw("y:[[[[[[1+[1]]]]]]]", 10);
        Due.dueLaw("y:!!!!!!1=1?[[[[[[1]]]]]]", NONE);
        Due.dueLaw("y:!!!!!!1=1?[[[[[[[1", 18);
        Due.dueLaw("y:!!!!!!1=1?1;y:((((((1=1))))))?1", NONE);
        Due.sentence("At most six of ( [ ! within one another: their WORTH");
        dueWorth("y:[[[[[[9-2]-1]-1]-1]-1]-1]-1", 1);
        dueWorth("y:9-[8-[7-[6-[5-[4-[3-2]]]]]]", 9 - (8 - (7 - (6 - (5 - (4 - 1))))));
        dueWorth("y:!!!!!!1=1?3;y:4", 3);
        dueWorth("y:!!!!!1=1?3;y:4", 4);
        dueWorth("y:(1=2|(1=1&(1=2|(1=1&(1=2|(1=1))))))?3;y:4", 3);
        dueWorth("y:(1=2|(1=1&(1=2|(1=1&(1=2|(1=2))))))?3;y:4", 4);
    }

    /** By POWER 4, SHARE 7, THICK 5, no ICE, 20 DEGREES, 4 EDGES. */
    private static void dueWorth(String law, int want) {
        ColdMiddle x = Due.lunch("sw1h1b99;ft5d20;ms7", law);
        Due.due("WORTH of " + law, x.next(0, 4) - 20, want);
    }

    /** Two SUMS have the same worth, and no other beside it. */
    private static void dueSame(String one, String other) {
        dueWorth("y:" + one + "=" + other + "?1;y:2", 1);
        dueWorth("y:" + one + "<" + other + "?1;y:2", 2);
        dueWorth("y:" + one + ">" + other + "?1;y:2", 2);
        dueWorth("y:" + one + "<[" + other + "]-1+2?1;y:2", other.equals("1000*1000") ? 2 : 1);
    }

    private static void withinAMillion() {
        Due.sentence("Behind each sign numbers are within -1,000,000 .. 1,000,000");
        String most = "1000*1000";
        String least = "0-1000*1000";
        dueSame("999*1001", "1000*1000-1");
        dueSame("1000*999+1000", most);
        dueSame("1000*1000+1", most);
        dueSame("1000*1000+0", most);
        dueSame("1001*1000", most);
        dueSame("9999*9999", most);
        dueSame("1000*1000+1-1", "999*1001");
        dueSame("1000*1000*1000/1000", "1000");
        dueSame("1000*1000+9999-9999", "1000*990+1");
        dueSame("[1000*1000]*[1000*1000]", most);
        dueSame("[1000*1000]*[0-1000*1000]", least);
        dueSame("[0-1000*1000]*[0-1000*1000]", most);
        dueSame("0-1000*1000-1", least);
        dueSame("0-1001*1000", least);
        dueSame("[0-9999]*9999", least);
        dueSame("0-1000*1000-1+1", "1-1000*1000");
        dueSame("0-1000*1000-1+1", "0-999*1001");
        dueSame("[0-1000*1000]/[0-1]", most);
        dueSame("1000*1000/[0-1]", least);
        dueSame("1-9999*9999", "0-999*1001");
        dueSame("9999+1", "100*100");
    }

    private static void cutsTowardsNought() {
        Due.sentence("/ cuts towards 0, by 0 gives 0");
        dueSame("7/2", "3");
        dueSame("1/2", "0");
        dueSame("9999/9999", "1");
        dueSame("9998/9999", "0");
        dueSame("[0-7]/2", "0-3");
        dueSame("7/[0-2]", "0-3");
        dueSame("[0-7]/[0-2]", "3");
        dueSame("[0-1]/2", "0");
        dueSame("5/0", "0");
        dueSame("[0-5]/0", "0");
        dueSame("0/0", "0");
        dueSame("0/5", "0");
        dueSame("5/i", "0");
        dueSame("5/[p-4]+2", "2");
        dueSame("1000*1000/0", "0");
        Due.sentence("TERMS with + or - between; ATOMS with * or / between");
        dueSame("9-4-3", "2");
        dueSame("9-4+3", "8");
        dueSame("90/4/2", "11");
        dueSame("7/2*2", "6");
        dueSame("2*7/2", "7");
        dueSame("1+2*3", "7");
        dueSame("2*3+1", "7");
        dueSame("[1+2]*3", "9");
    }

    private static void worth() {
        Due.sentence("WORTH: the SUM of the first CLAUSE whose CONDITION holds (or has none), 0 without");
        dueWorth("y:1=1?5;y:1=1?6;y:7", 5);
        dueWorth("y:1=2?5;y:1=1?6;y:7", 6);
        dueWorth("y:1=2?5;y:1=2?6;y:7", 7);
        dueWorth("y:1=2?5;y:1=2?6", 0);
        dueWorth("y:1=2?5", 0);
        dueWorth("y:7;y:1=1?6", 7);
        dueWorth("y:7;y:6", 7);
        Due.sentence("CONDITION: TRUTHS with | between; TRUTH: UNITS with & between");
        dueWorth("y:1=1|1=1&1=2?5;y:6", 5);
        dueWorth("y:(1=1|1=1)&1=2?5;y:6", 6);
        dueWorth("y:1=2&1=1|1=1?5;y:6", 5);
        dueWorth("y:1=2&(1=1|1=1)?5;y:6", 6);
        dueWorth("y:!1=2&1=2?5;y:6", 6);
        dueWorth("y:!(1=2&1=2)?5;y:6", 5);
        dueWorth("y:!1=1|1=1?5;y:6", 5);
        dueWorth("y:!(1=1|1=1)?5;y:6", 6);
        String[] holds = {"1=1", "1<2", "2>1", "!1=2", "!1>2", "(1=1)", "(1<2|1=2)", "!!2>1"};
        String[] holdsNot = {"1=2", "2<1", "1>2", "!1=1", "(1=2)", "(1<2&1=2)", "!!1=2"};
        for (String one : holds) {
            for (String other : holds) {
                dueWorth("y:" + one + "&" + other + "?5;y:6", 5);
                dueWorth("y:" + one + "|" + other + "?5;y:6", 5);
                dueWorth("y:!(" + one + "&" + other + ")?5;y:6", 6);
            }
            for (String other : holdsNot) {
                dueWorth("y:" + one + "&" + other + "?5;y:6", 6);
                dueWorth("y:" + other + "&" + one + "?5;y:6", 6);
                dueWorth("y:" + one + "|" + other + "?5;y:6", 5);
                dueWorth("y:" + other + "|" + one + "?5;y:6", 5);
            }
        }
        for (String one : holdsNot) {
            for (String other : holdsNot) {
                dueWorth("y:" + one + "|" + other + "?5;y:6", 6);
                dueWorth("y:" + one + "&" + other + "?5;y:6", 6);
            }
        }
        Due.sentence("one of = < >");
        dueWorth("y:3=3?5;y:6", 5);
        dueWorth("y:3=4?5;y:6", 6);
        dueWorth("y:3<3?5;y:6", 6);
        dueWorth("y:3<4?5;y:6", 5);
        dueWorth("y:4<3?5;y:6", 6);
        dueWorth("y:3>3?5;y:6", 6);
        dueWorth("y:4>3?5;y:6", 5);
        dueWorth("y:3>4?5;y:6", 6);
        dueWorth("y:2+2=4?5;y:6", 5);
        dueWorth("y:4=2+2?5;y:6", 5);
        Due.sentence("letters: p POWER, m SHARE, t THICK, i ICE, d DEGREES, e EDGES");
        dueWorth("y:p", 4);
        dueWorth("y:m", 7);
        dueWorth("y:t", 5);
        dueWorth("y:i", 0);
        dueWorth("y:d", 20);
        dueWorth("y:e", 4);
        ColdMiddle ice = Due.lunch("sw1h1;fi99", "y:i");
        ice.cook(1, 1);
        Due.due("ICE less by half of ICE", Due.ice(ice, 0), 99 - 49);
    }

    // ---- what the TAPE becomes

    private static void lunchIsTaken() {
        Due.sentence("text: NONE: a FAULT, no such sort; behind NONE the TAPE stays");
        ColdMiddle x = Due.written("fc3;fc5");
        for (int sort : new int[] {-2, -1, 1, 2, Integer.MIN_VALUE, Integer.MAX_VALUE}) {
            Due.due("text(" + sort + ")", x.text(sort), NONE);
            Due.due("count(4)", x.count(4), 7);
            Due.due("count(0), no LUNCH", x.count(0), 0);
            Due.due("count(3), no LAW", x.count(3), 0);
        }
        Due.due("fault(0), it stays", x.fault(0), NONE);
        Due.due("text(0)", x.text(0), 2);
        Due.due("count(4), it is empty", x.count(4), 0);
        Due.due("text(0) of nothing", x.text(0), NONE);
        Due.due("text(1) of nothing", x.text(1), NONE);
        Due.write(x, "fc16");
        Due.due("text(0), a FAULT at the length", x.text(0), NONE);
        Due.due("count(4)", x.count(4), 4);
        Due.due("count(1), the one ahead stays", x.count(1), 2);
        Due.due("THICK of 3", Due.thick(x, 3), 3);
    }

    private static void lunchTakesTheOtherAway() {
        Due.sentence("text: TEN 0, not TURNING; all that was of another one, DISHES told and what was SET, too, is gone "
                + "but LAWS, which holds, STIRS, STATUS");
        ColdMiddle x = Due.lunch("sw2h1p9s9b50a30;fi9;fc1d49;mc1s20;dn30", "y:9");
        x.stirs(7);
        x.turn(true);
        x.cook(9, 9);
        x.image();
        x.undo();
        x.stir();
        x.tell(0, true);
        x.set(0, 9, true);
        x.cook(0, 0);
        x.turn(true);
        x.eat(5);
        x.eat(0);
        x.eat(1);
        Due.dueStatus("four refused", x, "1 1 1 1");
        Due.write(x, "fc15;d");
        Due.due("text(0)", x.text(0), 1);
        int[] want = {16, 1, 1, 1, 0, 0, 0, 0, 0, 0, 0, 9, 7, 0, 0, 0, 0};
        for (int what = 0; what < want.length; what++) {
            Due.due("count(" + what + ")", x.count(what), want[what]);
        }
        Due.dueStatus("a new LUNCH", x, "1 1 1 1");
        Due.due("undo()", x.undo(), NONE);
        Due.due("back()", x.back(), NONE);
        Due.due("log(0,0)", x.log(0, 0), NONE);
        Due.due("weak(1,-1), no DISHES told", x.weak(1, -1), 16);
        Due.due("how(-1), nothing SET", x.how(-1), 80);
        Due.due("next(15,4), by the LAW", x.next(15, 4), 19);
        Due.due("spot(1,0)", Due.spot(x, 1, 0), 10);
        Due.due("stirs(7), it is so", x.stirs(7), false);
        for (int cell = 0; cell < 15; cell++) {
            Due.due("THICK of " + cell, Due.thick(x, cell), 0);
        }
        Due.sentence("text: the same LUNCH once more is another one");
        x.cook(3, 4);
        x.image();
        Due.write(x, "fc15;d");
        Due.due("text(0)", x.text(0), 1);
        Due.due("count(6)", x.count(6), 0);
        Due.due("back()", x.back(), NONE);
        Due.due("DEGREES", Due.degrees(x, 15), 10);
    }

    private static void fourLaws() {
        Due.sentence("LAWS (4 at most); text: NONE: there are four LAWS");
        ColdMiddle x = Due.lunch("sw1h1;fd0");
        for (int law = 0; law < 4; law++) {
            Due.due("law(" + law + ") ahead of it", x.law(law), false);
            Due.write(x, "y:" + (law + 1));
            Due.due("text(1)", x.text(1), law);
            Due.due("count(3)", x.count(3), law + 1);
            Due.due("count(4)", x.count(4), 0);
            Due.due("count(5), none holds", x.count(5), NONE);
        }
        Due.write(x, "y:5");
        Due.due("fault(1)", x.fault(1), NONE);
        Due.due("text(1), the fifth", x.text(1), NONE);
        Due.due("count(3)", x.count(3), 4);
        Due.due("count(4)", x.count(4), 3);
        Due.due("fault(1), it stays", x.fault(1), NONE);
        Due.due("law(4)", x.law(4), false);
        Due.sentence("law: The LAW that holds (NONE: none). False: no such one");
        for (int law = 0; law < 4; law++) {
            Due.due("law(" + law + ")", x.law(law), true);
            Due.due("count(5)", x.count(5), law);
            Due.due("next(0,1)", x.next(0, 1), law + 1);
            for (int none : new int[] {-2, 4, Integer.MIN_VALUE, Integer.MAX_VALUE}) {
                Due.due("law(" + none + ")", x.law(none), false);
                Due.due("count(5), refused", x.count(5), law);
                Due.due("next(0,1), refused", x.next(0, 1), law + 1);
            }
        }
        Due.due("law(NONE)", x.law(NONE), true);
        Due.due("law(NONE) again", x.law(NONE), true);
        Due.due("count(5)", x.count(5), NONE);
        Due.due("next(0,1), the usual", x.next(0, 1), 5);
        ColdMiddle none = new ColdMiddle();
        Due.due("law(NONE) of none", none.law(NONE), true);
        Due.due("law(0) of none", none.law(0), false);
        Due.sentence("text(1) without a LUNCH; a LAW with a FAULT is none");
        Due.write(none, "y:12345");
        Due.due("text(1), a FAULT", none.text(1), NONE);
        none.end(6);
        Due.due("text(1)", none.text(1), 0);
        Due.due("law(0)", none.law(0), true);
        Due.dueStatus("all these", none, "0 0 0 0");
    }
}

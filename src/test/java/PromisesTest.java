import java.util.NoSuchElementException;

/** Each promise of the document by answers reckoned by hand: ordinary inputs, edges, wrong inputs. */
public final class PromisesTest {
    private static final int NONE = -1;
    private static final int HIDDEN = -1000000;
    private static int wrong = 0;
    private static int promise = 0;

    public static void main(String[] args) {
        newObject();
        tape();
        lunchFaults();
        lawFaults();
        texts();
        told();
        tens();
        lawsAtWork();
        byHand();
        habits();
        undone();
        lengths();
        rows();
        wheres();
        weakPlaces();
        platesAndDishes();
        chances();
        howSet();
        asItIs();
        images();
        counts();
        if (wrong > 0) {
            System.out.println(wrong + " answers are not as due");
            System.exit(1);
        }
    }

    // ---- helpers

    private static void due(String what, long got, long want) {
        if (got != want) {
            wrong++;
            System.out.println("promise " + promise + ": " + what + " answered " + got + ", due is " + want);
        }
    }

    private static void due(String what, boolean got, boolean want) {
        due(what, got ? 1 : 0, want ? 1 : 0);
    }

    private static int four(String text, int from) {
        int number = 0;
        for (int i = from; i < from + 4; i++) {
            number = number << 8 | (i < text.length() ? text.charAt(i) : 0);
        }
        return number;
    }

    private static void write(ColdMiddle x, String text) {
        for (int at = 0; at < text.length(); at += 20) {
            x.feed(four(text, at), four(text, at + 4), four(text, at + 8), four(text, at + 12), four(text, at + 16));
        }
    }

    private static int faultOf(int sort, String text) {
        ColdMiddle x = new ColdMiddle();
        write(x, text);
        return x.fault(sort);
    }

    private static void dueLunch(String text, int want) {
        due("fault(0) of \"" + text + "\"", faultOf(0, text), want);
    }

    private static void dueLaw(String text, int want) {
        due("fault(1) of \"" + text + "\"", faultOf(1, text), want);
    }

    private static ColdMiddle lunch(String text) {
        ColdMiddle x = new ColdMiddle();
        write(x, text);
        if (x.text(0) == NONE) {
            due("text(0) of \"" + text + "\", fault", x.fault(0), NONE);
        }
        return x;
    }

    private static ColdMiddle lunch(String text, String law) {
        ColdMiddle x = lunch(text);
        write(x, law);
        due("text(1) of \"" + law + "\"", x.text(1), 0);
        due("law(0)", x.law(0), true);
        return x;
    }

    private static String many(String text, int n) {
        return text.repeat(n);
    }

    private static int spot(ColdMiddle x, int cell, int what) {
        try {
            return x.spot(cell, what);
        } catch (NoSuchElementException e) {
            return -77;
        }
    }

    // ---- the promises

    private static void newObject() {
        promise = 1;
        due("NONE", ColdMiddle.NONE, NONE);
        due("HIDDEN", ColdMiddle.HIDDEN, HIDDEN);
        ColdMiddle x = new ColdMiddle();
        due("mean()", x.mean(), NONE);
        due("image()", x.image(), NONE);
        for (int what = 0; what <= 16; what++) {
            due("count(" + what + ")", x.count(what), what == 5 ? NONE : 0);
        }
    }

    private static void tape() {
        promise = 2;
        ColdMiddle x = new ColdMiddle();
        due("feed of zeros", x.feed(0, 0, 0, 0, 0), 0);
        due("feed of f", x.feed(0x66, 0, 0, 0, 0), 1);
        due("feed of zeros between", x.feed(0x00630030, 0, 0, 0, 0x01000000), 4);
        due("fault(0), the byte 1", x.fault(0), 3);
        ColdMiddle y = new ColdMiddle();
        for (int i = 1; i <= 12; i++) {
            due("feed " + i, y.feed(0x20202020, -1, 0x20202020, 0x20202020, 0x20202020), 20 * i);
        }
        due("feed of a byte too many", y.feed(1, 0, 0, 0, 0), NONE);
        due("feed of none", y.feed(0, 0, 0, 0, 0), 240);
        due("end(239)", y.end(239), true);
        due("feed of two too many by one", y.feed(0x6666, 0, 0, 0, 0), NONE);
        due("count(4)", y.count(4), 239);
        due("feed of the last", y.feed(0, 0, 0, 0, 7), 240);
        // Bytes of each of the five numbers count.
        for (int k = 0; k < 5; k++) {
            y.end(239);
            int[] five = new int[5];
            five[k] = 0x01000001;
            due("feed of two by number " + k, y.feed(five[0], five[1], five[2], five[3], five[4]), NONE);
            y.end(238);
            due("feed of two by number " + k, y.feed(five[0], five[1], five[2], five[3], five[4]), 240);
        }
        ColdMiddle z = new ColdMiddle();
        z.feed(0x66633174, 0x32693364, 0x343b7377, 0x35683570, 0x3673313b);
        due("feed, its order", z.fault(0), 20);
        z.feed(0x66633230, 0, 0, 0, 0);
        due("text(0)", z.text(0), 2);
        due("spot(1,1)", spot(z, 1, 1), 2);
        due("spot(20,1)", spot(z, 20, 1), 3);

        promise = 3;
        ColdMiddle e = new ColdMiddle();
        due("end(0)", e.end(0), true);
        due("end(1)", e.end(1), false);
        due("end(-1)", e.end(-1), false);
        write(e, "fc1x");
        due("end(5)", e.end(5), false);
        due("end(4)", e.end(4), true);
        due("fault(0)", e.fault(0), 3);
        due("end(3)", e.end(3), true);
        due("fault(0)", e.fault(0), NONE);
        due("end(2)", e.end(2), true);
        due("fault(0)", e.fault(0), 2);
        due("end(MIN)", e.end(Integer.MIN_VALUE), false);
        due("count(4)", e.count(4), 2);
    }

    private static void lunchFaults() {
        promise = 4;
        ColdMiddle x = new ColdMiddle();
        due("fault(-1)", x.fault(-1), -2);
        due("fault(2)", x.fault(2), -2);
        dueLunch("", 0);
        dueLunch("  ", 2);
        dueLunch("f", NONE);
        dueLunch(" f ", NONE);
        dueLunch("s", 1);
        dueLunch("s ;", 3);
        dueLunch("f;", 2);
        dueLunch(";f", 0);
        dueLunch("f;;", 2);
        dueLunch("fc", 2);
        dueLunch("fc ", 3);
        dueLunch("fc1 2", 4);
        dueLunch("f c 1 ; s w 2", NONE);
        dueLunch("fcc", 2);
        dueLunch("fc1t2i3d4", NONE);
        dueLunch("fc1t2i3d4c", 8 + 1);
        dueLunch("fc1t2c3", 5);
        dueLunch("fn1", 1);
        dueLunch("mt1", 1);
        dueLunch("dc1", 1);
        dueLunch("F", 0);
        dueLunch("f\u00e9", 1);
        // Each number's bounds: its least and most stand, one beyond is wrong at its last digit.
        dueLunch("f;sw1h1", NONE);
        dueLunch("f;sw5h5p1s0b50a30", NONE);
        dueLunch("f;sw5h5p9s9b99a90", NONE);
        dueLunch("f;sh0", 4);
        dueLunch("f;sh6", 4);
        dueLunch("f;sw0", 4);
        dueLunch("f;sw6", 4);
        dueLunch("f;sw10", 5);
        dueLunch("f;sp10", 5);
        dueLunch("f;ss10", 5);
        dueLunch("f;sb49", 5);
        dueLunch("f;sb5", 4);
        dueLunch("f;sb5;", 4);
        dueLunch("f;sb5 0", 4);
        dueLunch("f;sa29", 5);
        dueLunch("f;sa91", 5);
        dueLunch("ft00", 3);
        dueLunch("ft01", NONE);
        dueLunch("ft10", 3);
        dueLunch("fi99", NONE);
        dueLunch("fi100", 4);
        dueLunch("fd49", NONE);
        dueLunch("fd499", 4);
        dueLunch("fd999x", 4);
        dueLunch("fc25", 3);
        dueLunch("f;mc25", 5);
        dueLunch("f;ms20", NONE);
        dueLunch("f;ms21", 5);
        dueLunch("f;dn30w9", NONE);
        dueLunch("f;dn0", 4);
        dueLunch("f;dn31", 5);
        dueLunch("f;dw10", 5);
        dueLunch("sw001;f", 4);
        // What shows at the end alone.
        dueLunch("fc15", NONE);
        dueLunch("fc16", 4);
        dueLunch("fc16 ", 5);
        dueLunch("fc24;sh5w5", NONE);
        dueLunch("f;mc4;sw2h2", 11);
        dueLunch("f;mc3;sw2h2", NONE);
        dueLunch("f;fc0", 5);
        dueLunch("f;m;mc1", NONE);
        dueLunch("f;m;mc00", 8);
        dueLunch("f;f;x", 4);
        dueLunch("m;d;s", 5);
        // How many of each.
        dueLunch("s;f;s", 4);
        dueLunch("fc0;fc1;fc2;fc3;fc4;fc5;fc6;fc7;fc8;fc9;fc10;fc11", NONE);
        dueLunch("fc0;fc1;fc2;fc3;fc4;fc5;fc6;fc7;fc8;fc9;fc10;fc11;f", 50);
        dueLunch("f;m;mc1;mc2;mc3;mc4;mc5", NONE);
        dueLunch("f;m;mc1;mc2;mc3;mc4;mc5;m", 24);
        dueLunch("f;" + many("d;", 5) + "d", NONE);
        dueLunch("f;" + many("d;", 6) + "d", 14);
    }

    private static void lawFaults() {
        dueLaw("", 0);
        dueLaw(" ", 1);
        dueLaw("x", 0);
        dueLaw("y", 1);
        dueLaw("y:", 2);
        dueLaw("y;", 1);
        dueLaw("y:1", NONE);
        dueLaw(" y : 1 ", NONE);
        dueLaw("y:9999", NONE);
        dueLaw("y:0000", NONE);
        dueLaw("y:12345", 6);
        dueLaw("y:1 2", 4);
        dueLaw("y:p+m-t*i/d+e", NONE);
        dueLaw("y:p+", 4);
        dueLaw("y:-1", 2);
        dueLaw("y:w", 2);
        dueLaw("y:pp", 3);
        dueLaw("y:[p", 4);
        dueLaw("y:[p]", NONE);
        dueLaw("y:[]", 3);
        dueLaw("y:(p)", 4);
        dueLaw("y:(p=1)", 7);
        dueLaw("y:(p=1)?2", NONE);
        dueLaw("y:[p=1]?2", 4);
        dueLaw("y:p=1", 5);
        dueLaw("y:p=1;", 5);
        dueLaw("y:p=1?", 6);
        dueLaw("y:p?1", 3);
        dueLaw("y:p&1", 3);
        dueLaw("y:p=1=1", 5);
        dueLaw("y:p=1&t?1", 7);
        dueLaw("y:p=1&t<2|d>3?1", NONE);
        dueLaw("y:p=1?1?1", 7);
        dueLaw("y:p=1?1=1", 7);
        dueLaw("y:p=1?!p=1", 6);
        dueLaw("y:!p=1?1", NONE);
        dueLaw("y:!p", 4);
        dueLaw("y:!!(p=1|!t=2)&d=1?[1]", NONE);
        dueLaw("y:1;", 4);
        dueLaw("y:1;y", 5);
        dueLaw("y:1;y:2", NONE);
        dueLaw("y:1;x", 4);
        dueLaw("y:1)", 3);
        dueLaw("y:1\u00e9", 3);
        // Six within one another; those beside one another are not.
        dueLaw("y:[[[[[[1]]]]]]", NONE);
        dueLaw("y:[[[[[[[1", 8);
        dueLaw("y:!!!!!!1=1?1", NONE);
        dueLaw("y:!!!!!!!1=1?1", 8);
        dueLaw("y:!!!!!![1]=1?1", 8);
        dueLaw("y:((((((1=1))))))?1", NONE);
        dueLaw("y:(((((((1", 8);
        dueLaw("y:!(!(!([1]=1)))?1", 9 - 1);
        dueLaw("y:!(!(![1]=1))?1", NONE);
        dueLaw("y:!(!(![1]=[1]+[2]))?[[[[[[1]]]]]]", NONE);
        dueLaw("y:" + many("!1=1&", 9) + "!1=1?1", NONE);
        dueLaw("y:" + many("[1]+", 9) + "[1]", NONE);
        dueLaw("y:" + many("(1=1)|", 9) + "(1=1)?1", NONE);
    }

    private static void texts() {
        promise = 5;
        ColdMiddle x = new ColdMiddle();
        due("text(0) of nothing", x.text(0), NONE);
        due("text(2)", x.text(2), NONE);
        write(x, "fc3;fc5;x");
        due("text(0) with a FAULT", x.text(0), NONE);
        due("count(4)", x.count(4), 9);
        x.end(7);
        due("text(2)", x.text(2), NONE);
        due("text(-1)", x.text(-1), NONE);
        due("text(0)", x.text(0), 2);
        due("count(4)", x.count(4), 0);
        for (int i = 0; i < 4; i++) {
            write(x, "y:" + i);
            due("text(0) of a LAW", x.text(0), NONE);
            due("text(1)", x.text(1), i);
            due("count(4)", x.count(4), 0);
        }
        write(x, "y:7");
        due("text(1), the fifth", x.text(1), NONE);
        due("count(4)", x.count(4), 3);
        due("count(3)", x.count(3), 4);
        x.end(0);
        x.law(2);
        x.stirs(4);
        x.turn(true);
        x.cook(3, 4);
        x.cook(0, 4);
        x.tell(0, false);
        x.set(3, 5, true);
        x.image();
        write(x, "f;dn4");
        due("text(0)", x.text(0), 1);
        int[] want = {16, 1, 1, 4, 0, 2, 0, 0, 0, 0, 0, 4, 4, 0, 0, 0, 0};
        for (int what = 0; what < want.length; what++) {
            due("count(" + what + ") of a new LUNCH", x.count(what), want[what]);
        }
        due("status(1)", x.status(1), 1);
        due("back()", x.back(), NONE);
        due("undo()", x.undo(), NONE);
        due("log(0,0)", x.log(0, 0), NONE);
        due("how(-1)", x.how(-1), 80);
    }

    private static void told() {
        promise = 6;
        ColdMiddle x = lunch("f");
        int[] usual = {4, 4, 4, 2, 95, 70};
        for (int what = 0; what < 6; what++) {
            due("oven(" + what + ")", x.oven(what), usual[what]);
        }
        due("oven(6)", x.oven(6), NONE);
        due("oven(-1)", x.oven(-1), NONE);
        due("oven(0) without", new ColdMiddle().oven(0), NONE);
        ColdMiddle y = lunch("f;sa31b51s1p2h3w5");
        int[] other = {5, 3, 2, 1, 51, 31};
        for (int what = 0; what < 6; what++) {
            due("oven(" + what + ")", y.oven(what), other[what]);
        }

        promise = 7;
        ColdMiddle z = lunch("sw3h2;fc4t9i8d7;fc1;mc5s20;m");
        due("spot(0,0)", spot(z, 0, 0), 3);
        due("spot(1,0)", spot(z, 1, 0), 10);
        due("spot(5,0)", spot(z, 5, 0), 20);
        due("spot(4,1)", spot(z, 4, 1), 9);
        due("spot(4,2)", spot(z, 4, 2), 8);
        due("spot(4,3)", spot(z, 4, 3), 7);
        due("spot(4,4)", spot(z, 4, 4), 3);
        due("spot(4,5)", spot(z, 4, 5), 0);
        due("spot(1,1)", spot(z, 1, 1), 3);
        due("spot(1,2)", spot(z, 1, 2), 0);
        due("spot(1,3)", spot(z, 1, 3), 10);
        for (int what = 1; what < 6; what++) {
            due("spot(2," + what + ") without FOOD", spot(z, 2, what), 0);
        }
        due("spot(6,0)", spot(z, 6, 0), -77);
        due("spot(-1,0)", spot(z, -1, 0), -77);
        due("spot(0,6)", spot(z, 0, 6), -77);
        due("spot(0,-1)", spot(z, 0, -1), -77);
        due("spot(0,0) without", spot(new ColdMiddle(), 0, 0), -77);

        promise = 8;
        ColdMiddle d = lunch("d;f;dn30w0;dn1w9");
        due("dish(0,0)", d.dish(0, 0), 9);
        due("dish(0,1)", d.dish(0, 1), 1);
        due("dish(1,0)", d.dish(1, 0), 30);
        due("dish(1,1)", d.dish(1, 1), 0);
        due("dish(2,1)", d.dish(2, 1), 9);
        due("dish(3,0)", d.dish(3, 0), NONE);
        due("dish(-1,0)", d.dish(-1, 0), NONE);
        due("dish(0,2)", d.dish(0, 2), NONE);
        due("dish(0,-1)", d.dish(0, -1), NONE);
        due("dish(0,0) without", new ColdMiddle().dish(0, 0), NONE);
    }

    private static void tens() {
        promise = 10;
        // Alone: 4 * 10 / 10 and 4 EDGES, less 3 / 4: 8.
        ColdMiddle x = lunch("sw1h1;fd10");
        due("cook(1,4)", x.cook(1, 4), 1);
        due("DEGREES", spot(x, 0, 3), 18);
        due("cook(2,1)", x.cook(2, 1), 3);
        due("DEGREES", spot(x, 0, 3), 28);
        due("cook(60,0)", x.cook(60, 0), 63);
        due("DEGREES", spot(x, 0, 3), 28);
        due("cook(0,4)", x.cook(0, 4), NONE);
        due("cook(61,4)", x.cook(61, 4), NONE);
        due("cook(1,5)", x.cook(1, 5), NONE);
        due("cook(1,-1)", x.cook(1, -1), NONE);
        due("status(1)", x.status(1), 4);
        due("count(6)", x.count(6), 63);
        due("cook without", new ColdMiddle().cook(0, 4), NONE);

        // THICK 9: 9 / 4 is 2; a SHARE of 7 of POWER 3: 2 (cut); so 2 + 4 - 2.
        ColdMiddle thick = lunch("sw1h1;fd10t9;ms7");
        thick.cook(1, 3);
        due("DEGREES of thick FOOD", spot(thick, 0, 3), 14);

        // Ice: half of 8 each TEN; DEGREES stay till it is gone.
        ColdMiddle ice = lunch("sw1h1;fd5i9");
        ice.cook(2, 4);
        due("ICE", spot(ice, 0, 2), 1);
        due("DEGREES", spot(ice, 0, 3), 5);
        ice.cook(1, 4);
        due("ICE", spot(ice, 0, 2), 0);
        due("DEGREES", spot(ice, 0, 3), 5);
        ice.cook(1, 4);
        due("DEGREES", spot(ice, 0, 3), 13);

        // It SPREADS by POWER 0: 39 * 2 / 20 is 3 (cut towards 0 both ways).
        ColdMiddle two = lunch("sw2h1;fd10;fc1d49");
        two.cook(1, 0);
        due("the cold one", spot(two, 0, 3), 13);
        due("the warm one", spot(two, 1, 3), 46);
        // Both sides of the middle at once: 9 * 9 / 20 is 4 up, 5 * 9 / 20 is 2 down.
        ColdMiddle three = lunch("sw3h1s9;fd20;fc1d11;fc2d6");
        three.cook(1, 0);
        due("the first", spot(three, 0, 3), 16);
        due("the middle", spot(three, 1, 3), 13);
        due("the last", spot(three, 2, 3), 8);
        // DEGREES don't fall below 0: 49 * 9 / 20 is 22 from each of two warm ones, and back.
        ColdMiddle four = lunch("sw3h1s9;fd0;fc1d49;fc2d0");
        four.cook(1, 0);
        due("the warm one", spot(four, 1, 3), 5);
        four.cook(1, 0);
        due("the middle one", spot(four, 1, 3), 19);
        ColdMiddle star = lunch("sw3h3s9;fc1d0;fc3d0;fc4d40;fc5d0;fc7d0");
        star.cook(1, 0);
        due("the middle of four", spot(star, 4, 3), 0);
        due("one of four", spot(star, 1, 3), 18);
        // Warmth melts ICE; cold beside it does nothing.
        ColdMiddle melt = lunch("sw2h1s5;fi9d0;fc1d40");
        melt.cook(1, 0);
        due("ICE less by 10", spot(melt, 0, 2), 0);
        due("DEGREES stay", spot(melt, 0, 3), 0);
        due("the warm one", spot(melt, 1, 3), 30);
        ColdMiddle stays = lunch("sw2h1s5;fi9d40;fc1d0");
        stays.cook(1, 0);
        due("ICE beside cold", spot(stays, 0, 2), 9);
        due("DEGREES of it", spot(stays, 0, 3), 40);
        // The next row is beside, the next CELL of another row is not.
        ColdMiddle rows = lunch("sw2h2s9;fc1d40;fc2d0");
        rows.cook(1, 0);
        due("not beside", spot(rows, 2, 3), 0);
        ColdMiddle under = lunch("sw2h2s9;fc1d40;fc3d0");
        under.cook(1, 0);
        due("below", spot(under, 3, 3), 18);

        // It BURSTS at the very number: 42 + 8 = 50; then 40, with BURST that stays, and again.
        ColdMiddle burst = lunch("sw1h1b50a30;fd42");
        due("cook(1,4)", burst.cook(1, 4), 1);
        due("DEGREES", spot(burst, 0, 3), 40);
        due("BURST", spot(burst, 0, 5), 1);
        due("log(0,2)", burst.log(0, 2), 1);
        burst.cook(1, 4);
        due("DEGREES", spot(burst, 0, 3), 48);
        due("log(0,2)", burst.log(0, 2), 0);
        due("BURST", spot(burst, 0, 5), 1);
        burst.cook(1, 4);
        due("log(0,2) once more", burst.log(0, 2), 1);
        due("count(9)", burst.count(9), 1);
        ColdMiddle almost = lunch("sw1h1b50a30;fd41");
        almost.cook(1, 4);
        due("BURST below", spot(almost, 0, 5), 0);

        // The last TEN.
        ColdMiddle last = lunch("sw1h1;f");
        for (int i = 0; i < 166; i++) {
            last.cook(60, 0);
        }
        due("cook(40,0)", last.cook(40, 0), NONE);
        due("status(3)", last.status(3), 1);
        due("cook(61,0)", last.cook(61, 0), NONE);
        due("status(1)", last.status(1), 1);
        due("habits(40,1)", last.habits(40, 1), NONE);
        due("habits(39,1)", last.habits(39, 1), 9999);
        last.undo();
        due("cook(1,0)", last.cook(1, 0), 9999);
        due("undo()", last.undo(), 39);
        due("cook(2,0)", last.cook(2, 0), NONE);
        due("cook(1,0)", last.cook(1, 0), 9999);
        due("cook(1,0)", last.cook(1, 0), NONE);
        due("habits(1,1)", last.habits(1, 1), NONE);
        due("status(3)", last.status(3), 3);
        due("heats(0,0,4)", last.heats(0, 0, 4), spot(last, 0, 3));
        due("heats(0,1,4) behind it", last.heats(0, 1, 4), last.next(0, 4));
        due("log(59,0)", last.log(59, 0), 0);
        due("log(60,0)", last.log(60, 0), NONE);
    }

    private static int byLaw(String law) {
        // POWER 4, SHARE 7, THICK 5, no ICE, 20 DEGREES, 4 EDGES.
        ColdMiddle x = lunch("sw1h1;ft5d20;ms7", law);
        return x.next(0, 4) - 20;
    }

    private static void dueWorth(String law, int want) {
        due("WORTH of \"" + law + "\"", byLaw(law), want);
    }

    /** Held within 99: ICE is less by half of it. */
    private static void dueMelts(String law, int want) {
        ColdMiddle x = lunch("sw1h1;fi99", law);
        x.cook(1, 4);
        due("ICE less by \"" + law + "\"", 99 - spot(x, 0, 2), want);
    }

    private static void lawsAtWork() {
        promise = 9;
        ColdMiddle x = lunch("sw1h1;f");
        due("law(0)", x.law(0), false);
        due("law(NONE)", x.law(NONE), true);
        write(x, "y:9");
        x.text(1);
        due("none at first", x.next(0, 1), 15);
        due("law(-2)", x.law(-2), false);
        due("law(1)", x.law(1), false);
        due("law(4)", x.law(4), false);
        due("law(0)", x.law(0), true);
        due("law(0) again", x.law(0), true);
        due("count(5)", x.count(5), 0);
        due("next(0,1)", x.next(0, 1), 19);
        due("next(0,0)", x.next(0, 0), 10);
        write(x, "y:2");
        x.text(1);
        due("next(0,1), the first holds", x.next(0, 1), 19);
        due("law(1)", x.law(1), true);
        due("next(0,1)", x.next(0, 1), 12);
        due("law(5)", x.law(5), false);
        due("next(0,1), refused", x.next(0, 1), 12);
        due("law(NONE)", x.law(NONE), true);
        due("next(0,1)", x.next(0, 1), 15);
        due("count(5)", x.count(5), NONE);

        promise = 5;
        dueWorth("y:p", 4);
        dueWorth("y:m", 7);
        dueWorth("y:t", 5);
        dueWorth("y:i", 0);
        dueWorth("y:d", 20);
        dueWorth("y:e", 4);
        dueWorth("y:0", 0);
        dueWorth("y:10-2-3", 5);
        dueWorth("y:10-2*3", 4);
        dueWorth("y:[10-2]*3", 24);
        dueWorth("y:90/4/2", 11);
        dueWorth("y:7/2*2", 6);
        dueWorth("y:20+[1-8]/2", 17);
        dueWorth("y:9/0+3", 3);
        dueWorth("y:0-5", 0);
        dueMelts("y:98", 49);
        dueMelts("y:97", 48);
        dueMelts("y:99+1", 49);
        dueMelts("y:9999*9999/9999", 49);
        dueWorth("y:9999*9999/9999/2", 50);
        dueWorth("y:9999*9999-9999*9999+7", 7);
        dueWorth("y:[0-9999]*9999/9999+150", 50);
        dueWorth("y:9999*100+9999-[9999*100+80]", 20);
        dueWorth("y:p=4?1;y:2", 1);
        dueWorth("y:p=5?1;y:2", 2);
        dueWorth("y:p=5?1;y:p<4?2", 0);
        dueWorth("y:p<5?1;y:2", 1);
        dueWorth("y:p>4?1;y:2", 2);
        dueWorth("y:p>3?1;y:2", 1);
        dueWorth("y:!p=4?1;y:2", 2);
        dueWorth("y:!!p=4?1;y:2", 1);
        dueWorth("y:p=1|p=4&t=5?1;y:2", 1);
        dueWorth("y:p=4|p=1&t=1?1;y:2", 1);
        dueWorth("y:(p=4|p=1)&t=1?1;y:2", 2);
        dueWorth("y:!p=1&t=1?1;y:2", 2);
        dueWorth("y:!(p=1&t=1)?1;y:2", 1);
        dueWorth("y:p=4&t=5&e=4?1;y:2", 1);
        dueWorth("y:p=1|t=1|e=1?1;y:2", 2);
        dueWorth(" y : p = 4 ? 12 ", 12);
        dueWorth("y:p+t=m+2?1;y:2", 1);
        dueWorth("y:3;y:2", 3);
        // ICE is less by half of it.
        ColdMiddle ice = lunch("sw1h1;fi9", "y:i");
        ice.cook(1, 4);
        due("ICE by a LAW", spot(ice, 0, 2), 5);
        ice.cook(1, 4);
        due("ICE by a LAW", spot(ice, 0, 2), 3);
    }

    private static void byHand() {
        promise = 11;
        ColdMiddle x = lunch("sw3h1a30;fi5d9;fc1i2d0t9;fc2d48");
        due("stir() without", new ColdMiddle().stir(), NONE);
        due("stir()", x.stir(), 19);
        for (int cell = 0; cell < 3; cell++) {
            due("ICE of " + cell, spot(x, cell, 2), 2);
            due("DEGREES of " + cell, spot(x, cell, 3), 19);
        }
        due("THICK", spot(x, 1, 1), 9);
        due("count(6)", x.count(6), 0);
        due("count(16)", x.count(16), 1);

        promise = 12;
        ColdMiddle t = lunch("sw3h1s0;fd10;fc2;mc2s20;mc0s0");
        due("turn(false)", t.turn(false), false);
        due("status(2)", t.status(2), 1);
        due("turn(true)", t.turn(true), true);
        due("turn(true)", t.turn(true), false);
        due("status(2)", t.status(2), 2);
        due("count(7)", t.count(7), 1);
        // TEN 0 is not odd: no SHARE, 4 EDGES; then the opposite one's: 8 more.
        t.cook(1, 4);
        due("TEN 0", spot(t, 0, 3), 14);
        t.cook(1, 4);
        due("TEN 1", spot(t, 0, 3), 26);
        due("TEN 1, the other", spot(t, 2, 3), 10 + 12 + 4);
        t.cook(1, 4);
        due("TEN 2", spot(t, 0, 3), 30);
        due("turn(false)", t.turn(false), true);
        t.cook(1, 4);
        due("TEN 3, not turning", spot(t, 0, 3), 34);
        due("spot(0,0)", spot(t, 0, 0), 0);
        ColdMiddle without = new ColdMiddle();
        due("turn(true) without", without.turn(true), false);
        due("turn(false) without", without.turn(false), false);
        due("status(0)", without.status(0), 2);
        due("status(2)", without.status(2), 0);

        promise = 13;
        ColdMiddle m = lunch("sw3h1b50s0;fi5d9t2;fc1d49");
        m.cook(1, 4);
        due("move(1,2)", m.move(1, 2), 4);
        due("BURST goes with it", spot(m, 2, 5), 1);
        due("none left", spot(m, 1, 1), 0);
        due("move(2,1)", m.move(2, 1), 3);
        due("move(0,2)", m.move(0, 2), 3);
        due("ICE", spot(m, 2, 2), 2);
        due("THICK", spot(m, 2, 1), 2);
        due("DEGREES", spot(m, 2, 3), 9);
        due("move(0,1), none there", m.move(0, 1), NONE);
        due("move(0,0), none there", m.move(0, 0), NONE);
        due("move(1,3), no CELL", m.move(1, 3), NONE);
        due("move(-1,0)", m.move(-1, 0), NONE);
        due("move(1,-1)", m.move(1, -1), NONE);
        due("status(0)", m.status(0), 5);
        due("move(1,2), FOOD there", m.move(1, 2), NONE);
        due("move(1,1)", m.move(1, 1), NONE);
        due("status(2)", m.status(2), 2);
        due("count(16)", m.count(16), 4);

        promise = 14;
        ColdMiddle e = lunch("sw5h1b50a40s0;fi1d48;fc1d49;fc2d39;fc3d40;fc4d39", "y:d=49?9;y:0");
        e.cook(1, 4);
        due("eat(0)", e.eat(0), 0);
        due("eat(1)", e.eat(1), 3);
        due("eat(1) again", e.eat(1), NONE);
        due("eat(2)", e.eat(2), 1);
        due("eat(3)", e.eat(3), 2);
        due("eat(5)", e.eat(5), NONE);
        due("eat(-1)", e.eat(-1), NONE);
        due("status(0)", e.status(0), 3);
        due("eat(4), the last", e.eat(4), NONE);
        due("status(3)", e.status(3), 1);
        due("count(1)", e.count(1), 1);
        due("count(9)", e.count(9), 0);
        // Burst behind thawing, then iced by stirring: ICE comes first; burst comes ahead of SAFE.
        ColdMiddle b = lunch("sw3h1b50a40s0;fi9d0;fc1d49;fc2i9", "y:d=49?9;y:0");
        b.cook(1, 4);
        b.stir();
        due("eat(1), iced", b.eat(1), 0);
        due("eat() without", new ColdMiddle().eat(0), NONE);
    }

    private static void habits() {
        promise = 15;
        ColdMiddle x = new ColdMiddle();
        due("stirs(0)", x.stirs(0), false);
        due("stirs(9)", x.stirs(9), true);
        due("stirs(9)", x.stirs(9), false);
        due("stirs(10)", x.stirs(10), false);
        due("stirs(-1)", x.stirs(-1), false);
        due("stirs(0)", x.stirs(0), true);
        due("count(12)", x.count(12), 0);
        for (int what = 0; what < 4; what++) {
            due("status(" + what + ")", x.status(what), 0);
        }

        promise = 16;
        due("habits without", x.habits(1, 1), NONE);
        ColdMiddle y = lunch("sw2h1p9s0;fd1;fc1d49t9");
        due("habits(0,1)", y.habits(0, 1), NONE);
        due("habits(61,1)", y.habits(61, 1), NONE);
        due("status(1)", y.status(1), 0);
        due("habits(60,7)", y.habits(60, 7), 60);
        due("count(16)", y.count(16), 40);
        long state = 7;
        for (int i = 59; i >= 0; i--) {
            state = state * 6364136223846793005L + 1442695040888963407L;
            state = state * 6364136223846793005L + 1442695040888963407L;
            due("log(" + i + ",0)", y.log(i, 0), (int) ((state >>> 33) % 10));
        }
        // By STIRS 9 each TEN is stirred ahead unless 9 is drawn; with what is ahead of it it is one ACT.
        ColdMiddle z = lunch("sw2h1p1s0;fd0;fc1d40", "y:0");
        z.stirs(9);
        long seed = 0;
        while (((seed * 6364136223846793005L + 1442695040888963407L) >>> 33) % 10 >= 9) {
            seed++;
        }
        due("habits(1,seed)", z.habits(1, seed), 1);
        due("stirred", spot(z, 0, 3), 20);
        due("undo()", z.undo(), 0);
        due("as it was", spot(z, 0, 3), 0);
        seed = 0;
        while (((seed * 6364136223846793005L + 1442695040888963407L) >>> 33) % 10 != 9) {
            seed++;
        }
        z.habits(1, seed);
        due("9 is drawn: not stirred", spot(z, 0, 3), 0);
        z.undo();
        z.stirs(0);
        seed = 0;
        while (((seed * 6364136223846793005L + 1442695040888963407L) >>> 33) % 10 != 0) {
            seed++;
        }
        z.habits(1, seed);
        due("0 is drawn, STIRS 0: not stirred", spot(z, 0, 3), 0);
        z.undo();
        z.stirs(1);
        z.habits(1, seed);
        due("0 is drawn, STIRS 1: stirred", spot(z, 0, 3), 20);
        due("habits by a seed below 0", z.habits(2, Long.MIN_VALUE), 3);
    }

    private static void undone() {
        promise = 17;
        ColdMiddle x = new ColdMiddle();
        x.cook(-1, 99);
        due("status(0)", x.status(0), 1);
        due("status(1)", x.status(1), 0);
        due("status(-1)", x.status(-1), NONE);
        due("status(4)", x.status(4), NONE);
        write(x, "f");
        x.text(0);
        x.cook(61, 0);
        x.cook(1, 0);
        x.undo();
        due("status(1), not UNDONE", x.status(1), 1);
        due("undo() of none", x.undo(), NONE);
        x.back();
        x.habits(0, 0);
        x.set(24, 0, true);
        x.tell(25, true);
        x.span(-1);
        due("status(0)", x.status(0), 1);
        due("status(1)", x.status(1), 1);
        due("status(2)", x.status(2), 0);
        due("status(3)", x.status(3), 0);

        promise = 18;
        ColdMiddle y = lunch("sw2h2s0;fi9d1;fc1d30");
        y.stir();
        y.turn(true);
        y.cook(2, 4);
        y.move(0, 2);
        y.eat(1);
        due("undo()", y.undo(), 5);
        due("FOOD is back", spot(y, 1, 1), 3);
        due("undo()", y.undo(), 4);
        due("FOOD is where it was", spot(y, 0, 1), 3);
        due("and not there", spot(y, 2, 1), 0);
        due("undo()", y.undo(), 3);
        due("the TEN", y.count(6), 1);
        due("the LOG", y.count(15), 1);
        due("undo()", y.undo(), 2);
        due("the LOG", y.log(0, 0), NONE);
        due("count(7)", y.count(7), 1);
        due("undo()", y.undo(), 1);
        due("count(7)", y.count(7), 0);
        due("undo()", y.undo(), 0);
        due("ICE", spot(y, 0, 2), 9);
        due("DEGREES", spot(y, 1, 3), 30);
        due("undo()", y.undo(), NONE);
        // The latest 40 alone, and with them the LOG's rows that had gone.
        ColdMiddle z = lunch("sw1h1p9;f");
        z.cook(50, 1);
        z.cook(10, 2);
        z.cook(40, 3);
        due("log(39,0)", z.log(39, 0), 3);
        due("log(40,0)", z.log(40, 0), 2);
        due("log(59,0)", z.log(59, 0), 1);
        due("log(60,0)", z.log(60, 0), NONE);
        due("count(16)", z.count(16), 40);
        for (int i = 39; i >= 0; i--) {
            due("undo()", z.undo(), i);
        }
        due("undo()", z.undo(), NONE);
        due("count(15)", z.count(15), 60);
        due("log(0,0)", z.log(0, 0), 2);
        due("log(10,0)", z.log(10, 0), 1);
        due("log(59,0)", z.log(59, 0), 1);
        due("log(59,1), the first TEN", z.log(59, 1), 15);
        due("log(60,0)", z.log(60, 0), NONE);

        promise = 19;
        ColdMiddle l = lunch("sw2h1b50s0;fd42;fc1d42i60");
        due("log(0,0)", l.log(0, 0), NONE);
        l.cook(1, 4);
        l.cook(1, 0);
        due("log(0,0)", l.log(0, 0), 0);
        due("log(0,1)", l.log(0, 1), 42);
        due("log(0,2)", l.log(0, 2), 0);
        due("log(1,0)", l.log(1, 0), 4);
        due("log(1,1)", l.log(1, 1), 42);
        due("log(0,3)", l.log(0, 3), NONE);
        due("log(0,-1)", l.log(0, -1), NONE);
        due("log(2,0)", l.log(2, 0), NONE);
        due("log(-1,0)", l.log(-1, 0), NONE);
        ColdMiddle two = lunch("sw2h1b50s0;fd49;fc1d48");
        two.cook(1, 4);
        due("log(0,1)", two.log(0, 1), 40);
        due("log(0,2)", two.log(0, 2), 2);
    }

    private static void lengths() {
        promise = 20;
        ColdMiddle x = lunch("sw1h1a34;fd10");
        due("span(4): 18, 26, 34", x.span(4), 3);
        due("span(1): by 5", x.span(1), 5);
        due("span(0)", x.span(0), NONE);
        due("span(5)", x.span(5), NONE);
        due("span(-1)", x.span(-1), NONE);
        due("count(6), apart", x.count(6), 0);
        due("count(15), apart", x.count(15), 0);
        due("span without", new ColdMiddle().span(1), NONE);
        due("span, SAFE now", lunch("sw1h1a30;fd30").span(0), 0);
        due("span, not by ICE", lunch("sw1h1a30;fd30i1").span(0), NONE);
        ColdMiddle sixty = lunch("sw1h1a70;fd10", "y:1");
        due("span behind 60", sixty.span(4), 60);
        ColdMiddle more = lunch("sw1h1a70;fd9", "y:1");
        due("span behind 61", more.span(4), NONE);
        // SAFE first, not to stay so: 68 is below 70, then 76 BURSTS to 65.
        ColdMiddle first = lunch("sw1h1b75a70;fd46", "y:8");
        due("span, passing SAFE", first.span(4), 3);

        promise = 23;
        ColdMiddle h = lunch("sw2h1s0;fd10;fc1i9d20");
        due("heats(0,0,4)", h.heats(0, 0, 4), 10);
        due("heats(0,1,4)", h.heats(0, 1, 4), 17);
        due("heats(0,60,0)", h.heats(0, 60, 0), 10);
        due("heats(1,3,4)", h.heats(1, 3, 4), 20);
        due("heats(1,4,4)", h.heats(1, 4, 4), 27);
        due("heats(0,61,4)", h.heats(0, 61, 4), NONE);
        due("heats(0,-1,4)", h.heats(0, -1, 4), NONE);
        due("heats(0,1,5)", h.heats(0, 1, 5), NONE);
        due("heats(0,1,-1)", h.heats(0, 1, -1), NONE);
        due("heats(2,1,4)", h.heats(2, 1, 4), NONE);
        due("heats(-1,1,4)", h.heats(-1, 1, 4), NONE);
        due("heats, no FOOD", lunch("fc1").heats(0, 1, 4), NONE);
        due("heats without", new ColdMiddle().heats(0, 0, 0), NONE);

        promise = 42;
        due("next(0,4)", h.next(0, 4), 17);
        due("next(0,0)", h.next(0, 0), 10);
        due("next(1,4)", h.next(1, 4), 20);
        due("next(0,5)", h.next(0, 5), NONE);
        due("next(0,-1)", h.next(0, -1), NONE);
        due("next(2,4)", h.next(2, 4), NONE);
        due("next(-1,4)", h.next(-1, 4), NONE);
        due("next, no FOOD", lunch("fc1").next(0, 1), NONE);
        due("next without", new ColdMiddle().next(0, 0), NONE);
        due("next, not cooked", spot(h, 0, 3), 10);

        promise = 26;
        ColdMiddle r = lunch("sw3h1s0;fd10;fc2d20;mc2s20");
        // 8 a TEN and 12 a TEN.
        due("runs(1,4)", r.runs(1, 4), 4);
        due("runs(3,4)", r.runs(3, 4), 12);
        due("runs(20,0)", r.runs(20, 0), 0);
        due("runs(0,4)", r.runs(0, 4), HIDDEN);
        due("runs(21,4)", r.runs(21, 4), HIDDEN);
        due("runs(1,5)", r.runs(1, 5), HIDDEN);
        due("runs(1,-1)", r.runs(1, -1), HIDDEN);
        due("runs without", new ColdMiddle().runs(1, 0), HIDDEN);
        due("runs together", lunch("sw2h1s9;fd0;fc1d40").runs(1, 0), 4 - 40);
    }

    private static void rows() {
        promise = 21;
        ColdMiddle x = lunch("sw1h1a34;fd10");
        due("soonest(0)", x.soonest(0), 3);
        due("soonest(1)", x.soonest(1), 111);
        due("soonest(2)", x.soonest(2), NONE);
        due("soonest(-1)", x.soonest(-1), NONE);
        due("soonest without", new ColdMiddle().soonest(0), NONE);
        ColdMiddle safe = lunch("sw1h1a30;fd30");
        due("soonest(0), SAFE", safe.soonest(0), 0);
        due("soonest(1), SAFE", safe.soonest(1), 0);
        // Six by one, 58; the seventh is too late.
        ColdMiddle six = lunch("sw1h1a58;fd10");
        due("soonest(0), six", six.soonest(0), 6);
        due("soonest(1), six", six.soonest(1), 111111);
        ColdMiddle seven = lunch("sw1h1a59;fd10");
        due("soonest(0), seven", seven.soonest(0), NONE);
        due("soonest(1), seven", seven.soonest(1), NONE);
        // Stirred it is SAFE at once: the mean of 20 and 40.
        ColdMiddle stirred = lunch("sw2h1s0a30;fd20;fc1d40");
        due("soonest(1), stirred", stirred.soonest(1), 2);
        // Standing does it: 14 of 60 flow; by the least row 0, not 2.
        ColdMiddle stands = lunch("sw2h1s5a30;fd28;fc1d48");
        due("soonest(0), standing", stands.soonest(0), 1);
        due("soonest(1), standing", stands.soonest(1), 0);
        // Stirred ahead a BURST is kept off: 40 and 44 by 7 more.
        ColdMiddle kept = lunch("sw2h1s0b51a45;fd34;fc1d44");
        due("soonest(0), a BURST kept off", kept.soonest(0), 2);
        due("soonest(1), a BURST kept off", kept.soonest(1), 12 + 9);
        ColdMiddle never = lunch("sw1h1b50a45;fd42");
        due("soonest, it BURSTS", never.soonest(0), NONE);
        due("count(6), apart", never.count(6), 0);

        promise = 22;
        due("without()", x.without(), 3);
        due("without(), SAFE", safe.without(), 0);
        due("without(), six", six.without(), 6);
        due("without(), seven", seven.without(), NONE);
        due("without(), stirred", stirred.without(), 1);
        due("without without", new ColdMiddle().without(), NONE);
        // Standing alone keeps both: spread lifts 28 to 33 and leaves 43; stirring makes 38 of both: SAFE, too.
        due("without(), stirring does", stands.without(), 1);
        // Stirred, ICE is shared and stays; standing melts the ICE of 1 by the other's warmth.
        ColdMiddle melt = lunch("sw2h1s9a30b99;fi2d30;fc1d49", "y:0");
        due("soonest(1), melting", melt.soonest(1), 0);
        due("soonest(0), melting", melt.soonest(0), 1);
        due("without(), melting", melt.without(), 1);
        ColdMiddle hold = lunch("sw2h1s9a30b99;fi4d30;fc1d49", "y:0");
        due("soonest(0), melting by more", hold.soonest(0), 1);
        // By 1 with a LAW of nothing it stands as well.
        due("without(), a TEN of nothing", hold.without(), 1);
        // By 1 it gets 99 and BURSTS; by 2 the ICE is shared, 2 each, and none flows.
        ColdMiddle apart = lunch("sw2h1s9a30b90;fi4d30;fc1d49", "y:i=0?99;y:0");
        due("soonest(1), standing alone", apart.soonest(1), 0);
        due("soonest(0), standing alone", apart.soonest(0), 1);
        due("without(), no way", apart.without(), NONE);
    }

    private static void wheres() {
        promise = 24;
        ColdMiddle x = lunch("sw3h1s0;fc1;mc2s12;mc0s8");
        due("place(1,1): 3+4, 4+4, 4+4", x.place(1, 1), 1);
        ColdMiddle y = lunch("sw3h1s0;fc1;mc2s13;mc0s8");
        due("place(1,1): 3+4, 4+4, 5+4", y.place(1, 1), 2);
        // Of 20 TENS it BURSTS in some: 92, 93, 85 then.
        due("place(1,20)", y.place(1, 20), 1);
        due("place(1,0)", y.place(1, 0), NONE);
        due("place(1,21)", y.place(1, 21), NONE);
        due("place(0,1), no FOOD", y.place(0, 1), NONE);
        due("place(3,1)", y.place(3, 1), NONE);
        due("place(-1,1)", y.place(-1, 1), NONE);
        due("place without", new ColdMiddle().place(0, 1), NONE);
        due("not moved", spot(y, 1, 1), 3);
        // A CELL with other FOOD is none, however good; its EDGES count.
        due("place, taken", lunch("sw4h1s0;fc1;fc3;mc3s20").place(1, 1), 0);
        // Less its ICE: of the lowest when all are alike.
        due("place, alike", lunch("sw3h1s0;fc2i50").place(2, 1), 0);
        due("place, ICE counts", lunch("sw3h1s0;fc2i50;ms3;mc1s20").place(2, 1), 1);

        promise = 25;
        ColdMiddle t = lunch("sw3h1s0;fd10;mc0s0;mc2s20");
        due("turning(1): TEN 0", t.turning(1), 0);
        due("turning(2)", t.turning(2), 8);
        due("turning(3)", t.turning(3), 8);
        due("turning(4)", t.turning(4), 16);
        t.cook(1, 0);
        due("turning(1): TEN 1", t.turning(1), 8);
        t.turn(true);
        due("turning(1), turning now", t.turning(1), 8);
        due("turning(0)", t.turning(0), HIDDEN);
        due("turning(21)", t.turning(21), HIDDEN);
        due("turning without", new ColdMiddle().turning(1), HIDDEN);
        due("count(7), apart", t.count(7), 1);
        ColdMiddle ice = lunch("sw3h1s0;fi90d10;mc0s0;mc2s20");
        due("turning(2), ICE", ice.turning(2), 4);
        due("turning, worse", lunch("sw3h1s0;fc2;mc0s0;mc2s20").turning(2), -8);
    }

    private static void weakPlaces() {
        promise = 27;
        ColdMiddle x = lunch("sw3h1;f");
        due("tell(3,true)", x.tell(3, true), NONE);
        due("tell(-1,true)", x.tell(-1, true), NONE);
        due("tell without", new ColdMiddle().tell(0, true), NONE);
        for (int i = 1; i <= 10; i++) {
            due("tell " + i, x.tell(2, true), i);
        }
        due("tell the 11th", x.tell(0, true), NONE);
        due("count(13)", x.count(13), 10);

        promise = 28;
        due("weak(1,-1)", x.weak(1, -1), 2);
        due("weak(1,0)", x.weak(1, 0), 1);
        due("weak(1,1)", x.weak(1, 1), 2);
        due("weak(1,2)", x.weak(1, 2), NONE);
        due("weak(1,-2)", x.weak(1, -2), NONE);
        due("weak(2,-1)", x.weak(2, -1), 1);
        due("weak(2,0)", x.weak(2, 0), 3);
        due("weak(0,-1)", x.weak(0, -1), NONE);
        due("weak(3,-1)", x.weak(3, -1), NONE);
        due("weak without", new ColdMiddle().weak(1, -1), NONE);
        ColdMiddle y = lunch("sw2h2;f");
        int[] pairs = {3, 5, 6, 9, 10, 12};
        due("weak(2,-1) of four", y.weak(2, -1), 6);
        for (int i = 0; i < 6; i++) {
            due("weak(2," + i + ")", y.weak(2, i), pairs[i]);
        }
        y.tell(1, false);
        due("weak(2,-1)", y.weak(2, -1), 3);
        due("weak(2,2)", y.weak(2, 2), 10);
        due("weak(1,0)", y.weak(1, 0), 2);
        due("weak(1,1)", y.weak(1, 1), NONE);
        y.tell(2, false);
        due("weak(1,-1), two are weak", y.weak(1, -1), 0);
        due("weak(2,0)", y.weak(2, 0), 6);
        due("best(1), nothing fits", y.best(1), NONE);
        y.tell(1, true);
        due("weak(2,-1), both", y.weak(2, -1), 0);
        due("weak(2,0)", y.weak(2, 0), NONE);
        due("weak of one CELL", lunch("sw1h1;f").weak(2, -1), 0);
        due("weak of one CELL", lunch("sw1h1;f").weak(1, 0), 1);
        due("weak of 25", lunch("sw5h5;f").weak(2, 299), (1 << 24) + (1 << 23));

        promise = 29;
        ColdMiddle z = lunch("sw3h1;f");
        due("best(1): 1 of 3 each", z.best(1), 0);
        z.tell(0, true);
        due("best(1): 1 of 2", z.best(1), 1);
        due("best(2), one set alone", z.best(2), 0);
        due("best(0)", z.best(0), NONE);
        due("best(3)", z.best(3), NONE);
        due("best without", new ColdMiddle().best(1), NONE);
        // Pairs of five without those of 0: 6; with 1 told weak: 3.
        ColdMiddle w = lunch("sw5h1;f");
        due("best(2): 4 of 10 each", w.best(2), 0);
        w.tell(0, true);
        due("best(2): 3 of 6", w.best(2), 1);
        w.tell(1, false);
        due("best(2): 1 of 3", w.best(2), 2);
    }

    private static void platesAndDishes() {
        promise = 30;
        ColdMiddle x = lunch("sw1h1p9a60;fd10");
        // By 9: 13 a TEN; by 4: 8; by 3: 7; by 2: 6.
        due("once(1,0)", x.once(1, 0), 4);
        due("once(2,0)", x.once(2, 0), 7);
        due("once(3,0)", x.once(3, 0), 8);
        due("once(4,0)", x.once(4, 0), 9);
        due("once(1,1)", x.once(1, 1), 4);
        due("once(3,1)", x.once(3, 1), 12);
        due("once(4,1)", x.once(4, 1), 16);
        due("once(0,0)", x.once(0, 0), NONE);
        due("once(5,0)", x.once(5, 0), NONE);
        due("once(1,2)", x.once(1, 2), NONE);
        due("once(1,-1)", x.once(1, -1), NONE);
        due("once without", new ColdMiddle().once(1, 0), NONE);
        ColdMiddle one = lunch("sw1h1p1a60;fd10");
        due("once(2,0), POWER 0", one.once(2, 0), NONE);
        due("once(2,1)", one.once(2, 1), 20);
        ColdMiddle sixty = lunch("sw1h1a69;fd9", "y:1");
        due("once(4,1), beyond 60", sixty.once(4, 1), 240);
        due("once, not within 60", lunch("sw1h1a70;fd9", "y:1").once(1, 1), NONE);

        promise = 31;
        ColdMiddle none = lunch("f");
        due("order(0) without DISHES", none.order(0), 0);
        due("order(1) without DISHES", none.order(1), 0);
        ColdMiddle d = lunch("f;dn9w1;dn2w3;dn4w2");
        // 1, 2, 0: 2*3 + 6*2 + 15*1.
        due("order(0)", d.order(0), 120);
        due("order(1)", d.order(1), 33);
        due("order(2)", d.order(2), NONE);
        due("order(-1)", d.order(-1), NONE);
        due("order without", new ColdMiddle().order(0), NONE);
        ColdMiddle same = lunch("f;d;d;d;d;d;d");
        due("order(0), alike", same.order(0), 12345);
        due("order(1), alike", same.order(1), 9 * 21);
        due("order(0), not minded", lunch("f;dw0;dn1w0;dn30w9").order(0), 201);
        due("order(1), not minded", lunch("f;dw0;dn1w0;dn30w9").order(1), 270);

        promise = 32;
        due("together(1)", d.together(1), 15);
        due("together(2)", d.together(2), 9);
        due("together(2), alike", same.together(2), 27);
        due("together(2)", lunch("f;dn7;dn6;dn5;dn4;dn3").together(2), 13);
        due("together(2), one", lunch("f;dn7").together(2), 7);
        due("together(1) without DISHES", none.together(1), 0);
        due("together(2) without DISHES", none.together(2), 0);
        due("together(0)", d.together(0), NONE);
        due("together(3)", d.together(3), NONE);
        due("together without", new ColdMiddle().together(1), NONE);
    }

    private static void chances() {
        promise = 33;
        due("bite without", new ColdMiddle().bite(), NONE);
        due("bite, most ICE", lunch("f;fc1i3;fc2i4d49;fc3i4d48;fc4i4d48;fc5d0").bite(), 3);
        due("bite, least DEGREES", lunch("fc3d9;fc7d8;fc9d8").bite(), 7);

        promise = 34;
        // SAFE is it only when stirred ahead of the TEN: 20 and 40.
        ColdMiddle x = lunch("sw2h1s0a30;fd20;fc1d40", "y:0");
        due("odds(0,100)", x.odds(0, 100), 0);
        due("odds(1,0)", x.odds(1, 0), 0);
        due("odds(1,30)", x.odds(1, 30), 300000000);
        due("odds(1,100)", x.odds(1, 100), 1000000000);
        due("odds(2,30)", x.odds(2, 30), 510000000);
        due("odds(8,0)", x.odds(8, 0), 0);
        due("odds(8,100)", x.odds(8, 100), 1000000000);
        due("odds(9,0)", x.odds(9, 0), NONE);
        due("odds(-1,0)", x.odds(-1, 0), NONE);
        due("odds(1,101)", x.odds(1, 101), NONE);
        due("odds(1,-1)", x.odds(1, -1), NONE);
        due("odds without", new ColdMiddle().odds(0, 0), NONE);
        due("odds(0,0), SAFE", lunch("sw1h1a30;fd30").odds(0, 0), 1000000000);
        // Each part is cut: of 7 to the 8 in 100 to the 8 more are left by cutting.
        long rest = 1000000000;
        for (int i = 0; i < 8; i++) {
            rest -= rest * 7 / 100;
        }
        due("odds(8,7)", x.odds(8, 7), 1000000000 - rest);
        due("count(6), apart", x.count(6), 0);
    }

    private static void howSet() {
        promise = 35;
        ColdMiddle x = lunch("sw2h1p2s0;fd10");
        due("set(1,0,true), no FOOD", x.set(1, 0, true), NONE);
        due("set(2,0,true)", x.set(2, 0, true), NONE);
        due("set(-1,0,true)", x.set(-1, 0, true), NONE);
        due("set(0,-1,true)", x.set(0, -1, true), NONE);
        due("set(0,100,true)", x.set(0, 100, true), NONE);
        due("set without", new ColdMiddle().set(0, 0, true), NONE);
        due("set(0,99,false)", x.set(0, 99, false), 1);
        due("set(0,0,true)", x.set(0, 0, true), 2);
        x.move(0, 1);
        due("set(0,20,true), FOOD as told", x.set(0, 20, true), 3);
        due("set(1,20,true), not as told", x.set(1, 20, true), NONE);
        for (int i = 4; i <= 10; i++) {
            due("set " + i, x.set(0, 40, false), i);
        }
        due("set the 11th", x.set(0, 0, true), NONE);
        due("count(14)", x.count(14), 10);

        promise = 36;
        // By 1: 15 20 25 30 35 40; by 2: 16 22 28 34 40.
        int[] want = {102, 103, 104, 105, 202, 203, 204};
        due("how(-1)", x.how(-1), want.length);
        for (int i = 0; i < want.length; i++) {
            due("how(" + i + ")", x.how(i), want[i]);
        }
        due("how(7)", x.how(7), NONE);
        due("how(-2)", x.how(-2), NONE);
        due("how without", new ColdMiddle().how(-1), NONE);
        ColdMiddle y = lunch("sw2h1p9s0;fd10;fc1i99");
        due("how(-1), nothing SET", y.how(-1), 180);
        due("how(0)", y.how(0), 101);
        due("how(19)", y.how(19), 120);
        due("how(20)", y.how(20), 201);
        due("how(179)", y.how(179), 920);
        y.set(1, 99, true);
        due("how(-1), none", y.how(-1), 0);
        due("how(0), none", y.how(0), NONE);
        // As told, from TEN 0, not turning, whatever is now.
        ColdMiddle z = lunch("sw3h1p1s0;fd10;mc0s0;mc2s20");
        z.turn(true);
        z.cook(1, 1);
        z.set(0, 18, true);
        z.set(0, 19, false);
        due("how(0), not turning", z.how(0), 102);
        due("how(1)", z.how(1), NONE);
    }

    private static void asItIs() {
        promise = 37;
        ColdMiddle x = lunch("sw3h3;fc1d49;fc4d20i7;fc5d30;fc6d31i1");
        due("mean()", x.mean(), 32);
        due("mean without", new ColdMiddle().mean(), NONE);
        promise = 38;
        due("hottest()", x.hottest(), 1);
        due("hottest, alike", lunch("fc3d9;fc7d9;fc9d8").hottest(), 3);
        due("hottest without", new ColdMiddle().hottest(), NONE);
        promise = 39;
        due("rim(): 4 has two, all others more", x.rim(), 2 + 16 + 32 + 64);
        due("rim without", new ColdMiddle().rim(), NONE);
        due("rim, the middle has none", lunch("sw3h3;fc1;fc3;fc4;fc5;fc7").rim(), 2 + 8 + 32 + 128);
        due("rim, one EDGE", lunch("sw3h3;fc1;fc3;fc4;fc5").rim(), 2 + 8 + 32);
        promise = 40;
        due("lump()", x.lump(), 16 + 64);
        due("lump without", new ColdMiddle().lump(), NONE);
        due("lump, none", lunch("f").lump(), 0);
        promise = 41;
        due("joined(1)", x.joined(1), 2 + 16 + 32);
        due("joined(5)", x.joined(5), 2 + 16 + 32);
        due("joined(6)", x.joined(6), 64);
        due("joined(0)", x.joined(0), NONE);
        due("joined(9)", x.joined(9), NONE);
        due("joined(-1)", x.joined(-1), NONE);
        due("joined without", new ColdMiddle().joined(0), NONE);
        due("joined, round", lunch("sw5h5;fc24;fc23;fc22;fc17;fc12;fc11;fc10;fc5;f").joined(24),
                (1 << 24) + (1 << 23) + (1 << 22) + (1 << 17) + (1 << 12) + (1 << 11) + (1 << 10) + (1 << 5) + 1);
        x.eat(4);
        due("joined(1)", x.joined(1), 2);
    }

    private static void images() {
        promise = 43;
        ColdMiddle x = lunch("sw2h1b50s0;fi9d20;fc1d48");
        due("back() without", x.back(), NONE);
        x.cook(2, 4);
        due("image()", x.image(), 2);
        due("count(16), an IMAGE is no ACT", x.count(16), 2);
        x.turn(true);
        x.cook(60, 0);
        x.cook(60, 3);
        x.eat(1);
        x.move(0, 1);
        x.tell(0, true);
        promise = 44;
        due("back()", x.back(), 2);
        due("count(6)", x.count(6), 2);
        due("count(7)", x.count(7), 0);
        due("count(15)", x.count(15), 2);
        due("log(0,0)", x.log(0, 0), 4);
        due("log(0,1)", x.log(0, 1), 20);
        due("log(1,2)", x.log(1, 2), 1);
        due("log(2,0)", x.log(2, 0), NONE);
        due("count(1)", x.count(1), 2);
        due("ICE", spot(x, 0, 2), 3);
        due("BURST", spot(x, 1, 5), 1);
        due("DEGREES", spot(x, 1, 3), 47);
        due("undo()", x.undo(), NONE);
        due("count(13), told stays", x.count(13), 1);
        x.cook(1, 4);
        due("undo()", x.undo(), 0);
        x.cook(3, 1);
        due("back() again", x.back(), 2);
        x.cook(3, 1);
        due("image() instead", x.image(), 5);
        x.cook(1, 1);
        due("back()", x.back(), 5);
        write(x, "f");
        x.text(0);
        due("back(), another LUNCH", x.back(), NONE);
        due("image()", x.image(), 0);
        due("back()", x.back(), 0);
        due("image() without", new ColdMiddle().image(), NONE);
    }

    private static void counts() {
        promise = 45;
        ColdMiddle x = lunch("sw3h2b50a30s0;fi9;fc1d49i1;fc4d49;dn3;dn4w0");
        write(x, "y:p");
        x.text(1);
        x.law(0);
        x.stirs(3);
        x.turn(true);
        x.cook(1, 1);
        x.tell(1, true);
        x.set(0, 1, true);
        x.set(1, 1, true);
        write(x, "fc1;f");
        int[] want = {6, 3, 2, 1, 5, 0, 1, 1, 0, 1, 10, 7, 3, 1, 2, 1, 2};
        for (int what = 0; what < want.length; what++) {
            due("count(" + what + ")", x.count(what), want[what]);
        }
        due("count(17)", x.count(17), HIDDEN);
        due("count(-1)", x.count(-1), HIDDEN);
        due("count(8), SAFE", lunch("sw1h1a30;fd30").count(8), 1);
        due("count(8), ICE", lunch("sw1h1a30;fd30i1").count(8), 0);
        due("count(8), one is not", lunch("sw2h1a30;fd30;fc1d29").count(8), 0);
        x.eat(1);
        due("count(1)", x.count(1), 2);
        due("count(10)", x.count(10), 9);
        x.eat(4);
        due("count(9)", x.count(9), 0);
    }
}

/** Each sentence that names a bound of what is told of the LUNCH and of what is found apart. */
public final class BoundsApartTest {
    private static final int NONE = Due.NONE;
    private static final int HIDDEN = Due.HIDDEN;
    /** DEGREES 10 and 1 more each TEN: SAFE behind so many TENS as SAFE is above 10. */
    private static final String SLOW = "y:1";

    public static void main(String[] args) {
        ovenHasSix();
        spotThrows();
        dishes();
        lengthWithin60();
        soonestWithinSix();
        soonestLeastRow();
        withoutStanding();
        heatsNoughtToSixty();
        behindTheLastTen();
        bestPlace();
        turning();
        runsAway();
        dishesToldTen();
        weakCells();
        lookNext();
        once();
        order();
        together();
        bite();
        oddsOfTens();
        oddsAreCut();
        setTen();
        how();
        meanAndHottest();
        rimAndLump();
        joined();
        next();
        counts();
        withoutALunch();
        Due.end();
    }

    // ---- what was told

    private static void ovenHasSix() {
        Due.sentence("oven: 0 WIDTH, 1 HEIGHT, 2 full POWER, 3 SPREAD, 4 BURSTS, 5 SAFE. NONE: no LUNCH, no such what");
        ColdMiddle x = Due.lunch("sw1h2p3s4b55a66;f");
        int[] want = {1, 2, 3, 4, 55, 66};
        for (int what = 0; what < 6; what++) {
            Due.due("oven(" + what + ")", x.oven(what), want[what]);
        }
        for (int what : new int[] {-1, 6, 7, Integer.MIN_VALUE, Integer.MAX_VALUE}) {
            Due.due("oven(" + what + ")", x.oven(what), NONE);
        }
    }

    private static void spotThrows() {
        Due.sentence("spot: NoSuchElementException: no such ones");
        for (String text : new String[] {"sw1h1;f", "sw2h2;f;fc3", "sw5h5;f;fc24"}) {
            ColdMiddle x = Due.lunch(text);
            int cells = x.count(0);
            for (int what = 0; what <= 5; what++) {
                Due.due("spot(0," + what + ") throws", Due.spot(x, 0, what) == Due.THROWN, false);
                Due.due("spot(last," + what + ") throws", Due.spot(x, cells - 1, what) == Due.THROWN, false);
                for (int cell : new int[] {-1, cells, 25, Integer.MIN_VALUE, Integer.MAX_VALUE}) {
                    Due.due("spot(" + cell + "," + what + ")", Due.spot(x, cell, what), Due.THROWN);
                }
            }
            for (int what : new int[] {-1, 6, Integer.MIN_VALUE, Integer.MAX_VALUE}) {
                Due.due("spot(0," + what + ")", Due.spot(x, 0, what), Due.THROWN);
                Due.due("spot(-1," + what + ")", Due.spot(x, -1, what), Due.THROWN);
            }
            Due.dueStatus("these", x, "0 0 0 0");
        }
        ColdMiddle x = Due.lunch("sw2h2;f");
        Due.due("spot(1,6) without FOOD", Due.spot(x, 1, 6), Due.THROWN);
        Due.due("spot(1,-1) without FOOD", Due.spot(x, 1, -1), Due.THROWN);
        Due.sentence("spot: 1 THICK (0: no FOOD); 2 .. 5 without FOOD: 0");
        Due.due("spot(1,0), SHARE without FOOD", Due.spot(x, 1, 0), 10);
        for (int what = 1; what <= 5; what++) {
            Due.due("spot(1," + what + ")", Due.spot(x, 1, what), 0);
        }
    }

    private static void dishes() {
        Due.sentence("dish: 0 TENS, 1 how one minds. NONE: no such ones");
        ColdMiddle x = Due.lunch("f;d;d;d;d;d;dn30w0");
        Due.due("dish(5,0)", x.dish(5, 0), 30);
        Due.due("dish(5,1)", x.dish(5, 1), 0);
        Due.due("dish(0,0)", x.dish(0, 0), 9);
        for (int dish : new int[] {-1, 6, 7, Integer.MIN_VALUE, Integer.MAX_VALUE}) {
            Due.due("dish(" + dish + ",0)", x.dish(dish, 0), NONE);
            Due.due("dish(" + dish + ",1)", x.dish(dish, 1), NONE);
        }
        for (int what : new int[] {-1, 2, Integer.MIN_VALUE, Integer.MAX_VALUE}) {
            Due.due("dish(0," + what + ")", x.dish(0, what), NONE);
        }
        ColdMiddle none = Due.lunch("f");
        Due.due("dish(0,0) of none", none.dish(0, 0), NONE);
        ColdMiddle one = Due.lunch("f;d");
        Due.due("dish(1,0) of one", one.dish(1, 0), NONE);
    }

    // ---- LENGTH, SOONEST, WITHOUT, HEATS

    private static void lengthWithin60() {
        Due.sentence("LENGTH at a POWER: behind how many TENS (0 .. 60) it is SAFE first. NONE: not within 60, no LUNCH, out "
                + "of bounds");
        for (int tens = 0; tens <= 62; tens++) {
            int safe = Math.max(30, tens);
            ColdMiddle x = Due.lunch("sw1h1b99a" + safe + ";fd" + (safe - tens), SLOW);
            Due.due("span(1) of " + tens, x.span(1), tens <= 60 ? tens : NONE);
            Due.due("span(4) of " + tens, x.span(4), tens <= 60 ? tens : NONE);
            Due.due("span(0) of " + tens, x.span(0), tens == 0 ? 0 : NONE);
            x.cook(1, 1);
            Due.due("span(1) of " + tens + " behind one", x.span(1), tens <= 61 ? Math.max(0, tens - 1) : NONE);
        }
        for (int full = 1; full <= 9; full += 4) {
            ColdMiddle x = Due.lunch("sw1h1a30p" + full + ";fd30");
            Due.due("span(0)", x.span(0), 0);
            Due.due("span(full)", x.span(full), 0);
            Due.due("span(full + 1)", x.span(full + 1), NONE);
            Due.due("span(-1)", x.span(-1), NONE);
            for (int far : Due.FAR) {
                Due.due("span(" + far + ")", x.span(far), NONE);
            }
        }
        Due.sentence("LENGTH: SAFE first, though it is so no longer then");
        ColdMiddle first = Due.lunch("sw1h1b75a70;fd46", "y:8");
        Due.due("span(1): 54, 62, 70", first.span(1), 3);
        first.cook(4, 1);
        Due.due("DEGREES: 78 BURST", Due.degrees(first, 0), 65);
        Due.due("span(1) behind it: 73", first.span(1), 1);
    }

    private static void soonestWithinSix() {
        Due.sentence("SOONEST: the fewest TENS (0 .. 6). NONE: not within six, no LUNCH, no such what");
        int row = 0;
        for (int tens = 0; tens <= 8; tens++) {
            ColdMiddle x = Due.lunch("sw1h1a40;fd" + (40 - tens), SLOW);
            Due.due("soonest(0) of " + tens, x.soonest(0), tens <= 6 ? tens : NONE);
            Due.due("soonest(1) of " + tens, x.soonest(1), tens <= 6 ? row : NONE);
            Due.due("without() of " + tens, x.without(), tens <= 6 ? tens : NONE);
            for (int what : new int[] {-1, 2, Integer.MIN_VALUE, Integer.MAX_VALUE}) {
                Due.due("soonest(" + what + ")", x.soonest(what), NONE);
            }
            row = row * 10 + 1;
        }
        Due.sentence("the row (1; 0 without TENS)");
        ColdMiddle safe = Due.lunch("sw1h1a30;fd30");
        Due.due("soonest(1), SAFE now", safe.soonest(1), 0);
        Due.sentence("1 has full POWER");
        ColdMiddle full = Due.lunch("sw1h1a40p9;fd31", "y:p");
        Due.due("soonest(0)", full.soonest(0), 1);
        Due.due("soonest(1)", full.soonest(1), 1);
    }

    private static void soonestLeastRow() {
        Due.sentence("of several the least; the first the highest");
        // 2 does it, 1 does it: the least is 1.
        ColdMiddle x = Due.lunch("sw2h1s0a30;fd20;fc1d40", "y:9+i+1");
        Due.due("soonest(1), 1 and 2 do it", x.soonest(1), 1);
        ColdMiddle melts = Due.lunch("sw2h1s0a30;fd20;fc1d40", "y:0");
        Due.due("soonest(1), STIRRED", melts.soonest(1), 2);
        ColdMiddle late = Due.lunch("sw2h1s0a31;fd20;fc1d40", "y:d=20?1;y:d=40?1");
        Due.due("soonest(0), 21 and 41: their mean", late.soonest(0), 2);
        Due.due("soonest(1), 1 then 2, not 2 then 1", late.soonest(1), 12);
        Due.sentence("0 it stands: a row may begin so");
        ColdMiddle stands = Due.lunch("sw2h1s5a30;fd28;fc1d48");
        Due.due("soonest(0)", stands.soonest(0), 1);
        Due.due("soonest(1)", stands.soonest(1), 0);
        ColdMiddle twice = Due.lunch("sw2h1s5a32;fd24;fc1d48", "y:0");
        Due.due("soonest(1), 24 and 48 STIRRED", twice.soonest(1), 2);
        Due.sentence("nothing BURSTS in them");
        ColdMiddle bursts = Due.lunch("sw1h1b50a45;fd42", "y:8");
        Due.due("soonest(0), it BURSTS", bursts.soonest(0), NONE);
        Due.due("without(), it BURSTS", bursts.without(), NONE);
        ColdMiddle just = Due.lunch("sw1h1b50a45;fd41", "y:8");
        Due.due("soonest(0), 49 of 50", just.soonest(0), 1);
        Due.due("without(), 49 of 50", just.without(), 1);
        Due.sentence("nothing BURSTS in them: nor by 2 or 0");
        // What SPREADS by four of 49 makes the middle BURST by 0; stirred all have 47.
        ColdMiddle middle = Due.lunch("sw3h3b50a46s9;fc4d40;fc1d49;fc3d49;fc5d49;fc7d49", "y:0");
        Due.due("soonest(0)", middle.soonest(0), 1);
        Due.due("soonest(1)", middle.soonest(1), 2);
        Due.due("without()", middle.without(), 1);
        Due.sentence("what BURST ahead of them is no matter");
        ColdMiddle ahead = Due.lunch("sw1h1b50a45;fd49", "y:d/49+5*[d/40-d/49]");
        ahead.cook(1, 1);
        Due.due("BURST", Due.spot(ahead, 0, 5), 1);
        Due.due("soonest(0), 40 and 5", ahead.soonest(0), 1);
        Due.due("without(), 40 and 5", ahead.without(), 1);
    }

    private static void withoutStanding() {
        Due.sentence("WITHOUT standing: the fewest by 1 and 2 alone. NONE: not within six, no LUNCH");
        // By 1 it gets 99 and BURSTS; by 2 the ICE is shared and stays; by 0 the other's warmth melts it.
        ColdMiddle x = Due.lunch("sw2h1s9a30b90;fi4d30;fc1d49", "y:i=0?99;y:0");
        Due.due("soonest(0)", x.soonest(0), 1);
        Due.due("soonest(1)", x.soonest(1), 0);
        Due.due("without()", x.without(), NONE);
        Due.due("without(), SAFE now", Due.lunch("sw1h1a30;fd30").without(), 0);
        ColdMiddle stir = Due.lunch("sw2h1s0a30;fd20;fc1d40", "y:0");
        Due.due("without(), by 2", stir.without(), 1);
        Due.sentence("SOONEST, WITHOUT: from as it is now");
        ColdMiddle now = Due.lunch("sw1h1a40;fd30", SLOW);
        Due.due("soonest(0)", now.soonest(0), NONE);
        now.cook(4, 1);
        Due.due("soonest(0)", now.soonest(0), 6);
        Due.due("without()", now.without(), 6);
        Due.due("count(6), apart", now.count(6), 4);
        now.undo();
        Due.due("soonest(0)", now.soonest(0), NONE);
    }

    private static void heatsNoughtToSixty() {
        Due.sentence("HEATS: DEGREES of a CELL behind n (0 .. 60) TENS at a POWER. NONE: no such CELL, no FOOD there, out of "
                + "bounds");
        ColdMiddle x = Due.lunch("sw2h1b99;fd10;mc1s3", SLOW);
        for (int n = 0; n <= 60; n++) {
            Due.due("heats(0," + n + ",1)", x.heats(0, n, 1), 10 + n);
        }
        Due.due("heats(0,60,0)", x.heats(0, 60, 0), 10);
        Due.due("heats(0,60,4)", x.heats(0, 60, 4), 70);
        for (int n : new int[] {-1, 61, Integer.MIN_VALUE, Integer.MAX_VALUE}) {
            Due.due("heats(0," + n + ",1)", x.heats(0, n, 1), NONE);
        }
        for (int power : new int[] {-1, 5, Integer.MIN_VALUE, Integer.MAX_VALUE}) {
            Due.due("heats(0,1," + power + ")", x.heats(0, 1, power), NONE);
            Due.due("heats(0,0," + power + ")", x.heats(0, 0, power), NONE);
        }
        for (int cell : new int[] {-1, 1, 2, Integer.MIN_VALUE, Integer.MAX_VALUE}) {
            Due.due("heats(" + cell + ",1,1)", x.heats(cell, 1, 1), NONE);
        }
        Due.due("count(6), apart", x.count(6), 0);
    }

    private static void behindTheLastTen() {
        Due.sentence("Apart, from as it is now; TENS go on behind 9,999");
        ColdMiddle x = Due.lunch("sw2h1s0a60;fd10;ms0;mc1s20", "y:m");
        x.turn(true);
        Due.stand(x, 9999);
        Due.due("count(6)", x.count(6), 9999);
        // 9,999 is odd: the opposite one's 20, then its own 0.
        Due.due("next(0,4)", x.next(0, 4), 30);
        Due.due("heats(0,2,4)", x.heats(0, 2, 4), 30);
        Due.due("heats(0,3,4)", x.heats(0, 3, 4), 50);
        Due.due("span(4)", x.span(4), 5);
        Due.due("soonest(0)", x.soonest(0), 5);
        Due.due("odds(5,0)", x.odds(5, 0), 1000000000);
        Due.due("odds(4,0)", x.odds(4, 0), 0);
        Due.due("runs(1,4)", x.runs(1, 4), 0);
        Due.due("turning(1)", x.turning(1), 20);
        Due.due("place(0,1)", x.place(0, 1), 0);
        Due.due("once(2,0)", x.once(2, 0), 5);
        Due.due("count(6), apart", x.count(6), 9999);
        Due.due("cook(1,4)", x.cook(1, 4), NONE);
    }

    // ---- BEST PLACE, TURNING, RUNS

    private static void bestPlace() {
        Due.sentence("BEST PLACE for FOOD and n (1 .. 20) TENS. NONE: no such CELL, no FOOD there, out of bounds");
        ColdMiddle x = Due.lunch("sw3h1s0b99;fc1d0;mc2s20;mc0s0", "y:m");
        Due.due("place(1,1)", x.place(1, 1), 2);
        Due.due("place(1,4), 80 each", x.place(1, 4), 2);
        // 20 each TEN BURSTS at the fifth to 89, and at each behind it; 10 each has 98 first behind ten.
        Due.due("place(1,20)", x.place(1, 20), 1);
        for (int n : new int[] {0, -1, 21, Integer.MIN_VALUE, Integer.MAX_VALUE}) {
            Due.due("place(1," + n + ")", x.place(1, n), NONE);
        }
        for (int cell : new int[] {-1, 0, 2, 3, Integer.MIN_VALUE, Integer.MAX_VALUE}) {
            Due.due("place(" + cell + ",1)", x.place(cell, 1), NONE);
        }
        Due.sentence("the CELL (its own or one without FOOD); of several the lowest");
        Due.due("its own is best", Due.lunch("sw3h1s0;fc1;ms9;mc2s9").place(1, 1), 1);
        Due.due("all alike", Due.lunch("sw3h3s0;fc8").place(8, 1), 0);
        Due.due("its own alone", Due.lunch("sw2h1s0;f;fc1;mc0s0").place(0, 1), 0);
        Due.due("the only CELL", Due.lunch("sw1h1;f").place(0, 20), 0);
        Due.due("one with FOOD is none", Due.lunch("sw4h1s0;fc1;fc3;mc3s20").place(1, 1), 0);
        Due.due("the last CELL", Due.lunch("sw5h5s0;f;mc24s20").place(0, 1), 24);
        Due.due("its EDGES there", Due.lunch("sw4h1s0;f;fc1;mc2s10").place(0, 1), 3);
        Due.sentence("the most DEGREES then, less its ICE");
        Due.due("ICE gone sooner", Due.lunch("sw3h1s0;fc2i50;ms3;mc1s20").place(2, 1), 1);
        Due.due("ICE 1 by a gain of 1 or 2", Due.lunch("sw2h1s0;fi1d9;ms1;mc1s2", "y:m").place(0, 1), 1);
        Due.due("ICE stays either way", Due.lunch("sw2h1s0;fi1d9;ms0;mc1s1", "y:m").place(0, 1), 0);
        Due.sentence("BEST PLACE: apart");
        ColdMiddle apart = Due.lunch("sw3h1s0;fc1;mc2s20");
        apart.place(1, 20);
        Due.due("THICK of 1", Due.thick(apart, 1), 3);
        Due.due("DEGREES of 1", Due.degrees(apart, 1), 10);
        Due.due("count(16)", apart.count(16), 0);
    }

    private static void turning() {
        Due.sentence("TURNING for n (1 .. 20) TENS at full POWER: the least DEGREES of all (less ICE) if it TURNS, less that "
                + "if not. HIDDEN: no LUNCH, out of bounds");
        ColdMiddle x = Due.lunch("sw2h1s0b99;fd0;ms0;mc1s4", "y:m");
        for (int n = 1; n <= 20; n++) {
            Due.due("turning(" + n + ")", x.turning(n), n / 2 * 4);
        }
        for (int n : new int[] {0, -1, 21, Integer.MIN_VALUE, Integer.MAX_VALUE}) {
            Due.due("turning(" + n + ")", x.turning(n), HIDDEN);
        }
        x.turn(true);
        Due.due("turning(2), TURNING now", x.turning(2), 4);
        Due.due("count(7), apart", x.count(7), 1);
        x.turn(false);
        x.cook(1, 0);
        Due.due("turning(1) at TEN 1", x.turning(1), 4);
        Due.due("turning(2) at TEN 1", x.turning(2), 4);
        ColdMiddle ice = Due.lunch("sw2h1s0;fi9d10;ms0;mc1s4", "y:m");
        Due.due("turning(2), less ICE", ice.turning(2), 2);
        ColdMiddle worse = Due.lunch("sw2h1s0;fd0;ms9;mc1s0", "y:m");
        Due.due("turning(2), worse", worse.turning(2), -9);
        ColdMiddle least = Due.lunch("sw2h1s0b99;fd0;fc1d49;ms4;mc1s0", "y:m");
        Due.due("turning(2), the least of all", least.turning(2), -4);
        // The least may be of other FOOD: 20 less 30 of ICE is below 0 DEGREES.
        ColdMiddle other = Due.lunch("sw3h1s0;fd0;fc2d20i30;ms0;mc2s8", "y:m");
        Due.due("turning(2): 8 and 20 - 26, 0 and 20 - 22", other.turning(2), (20 - 26) - (20 - 22));
    }

    private static void runsAway() {
        Due.sentence("RUNS away in n (1 .. 20) TENS at a POWER: by how many DEGREES the warmest and the coldest are further "
                + "apart than now. HIDDEN: no LUNCH, out of bounds");
        ColdMiddle x = Due.lunch("sw3h1s0b99;fd0;fc2d1;mc2s4;ms0", "y:m");
        for (int n = 1; n <= 20; n++) {
            Due.due("runs(" + n + ",4)", x.runs(n, 4), 4 * n);
            Due.due("runs(" + n + ",0)", x.runs(n, 0), 0);
        }
        for (int n : new int[] {0, -1, 21, Integer.MIN_VALUE, Integer.MAX_VALUE}) {
            Due.due("runs(" + n + ",4)", x.runs(n, 4), HIDDEN);
        }
        for (int power : new int[] {-1, 5, Integer.MIN_VALUE, Integer.MAX_VALUE}) {
            Due.due("runs(1," + power + ")", x.runs(1, power), HIDDEN);
        }
        Due.due("runs(1,1)", x.runs(1, 1), 4);
        Due.due("runs, one FOOD", Due.lunch("sw1h1;f").runs(20, 4), 0);
        Due.due("runs, one FOOD of 0", Due.lunch("sw1h1;fd0").runs(1, 4), 0);
        Due.due("runs, two of 0", Due.lunch("sw3h1s0;fd0;fc2d0").runs(1, 4), 0);
        Due.due("runs, closer", Due.lunch("sw2h1s9;fd0;fc1d49").runs(1, 0), 5 - 49);
        Due.due("runs, ICE is no DEGREES", Due.lunch("sw2h1s0;fd0;fc1d9i99").runs(1, 0), 0);
        Due.due("runs, the coldest overtakes", Due.lunch("sw2h1s0;fd0;fc1d9;ms9;mc1s0", "y:m*2").runs(1, 4), 0);
    }

    // ---- WEAK, LOOK

    private static void dishesToldTen() {
        Due.sentence("DISHES told (10 at most); tell: how many there are. NONE: no such CELL, there are ten");
        ColdMiddle x = Due.lunch("sw2h2;f");
        for (int cell : new int[] {-1, 4, 24, Integer.MIN_VALUE, Integer.MAX_VALUE}) {
            Due.due("tell(" + cell + ",true)", x.tell(cell, true), NONE);
            Due.due("tell(" + cell + ",false)", x.tell(cell, false), NONE);
        }
        Due.due("count(13)", x.count(13), 0);
        for (int i = 1; i <= 10; i++) {
            Due.due("tell the " + i, x.tell(i == 1 ? 3 : 0, true), i);
            Due.due("count(13)", x.count(13), i);
        }
        Due.due("weak(1,-1)", x.weak(1, -1), 2);
        Due.due("tell the 11th", x.tell(1, true), NONE);
        Due.due("tell the 11th, no such CELL", x.tell(4, true), NONE);
        Due.due("count(13)", x.count(13), 10);
        Due.due("weak(1,-1), refused", x.weak(1, -1), 2);
        Due.dueStatus("these", x, "0 0 0 0");
        Due.due("count(16), no ACT", x.count(16), 0);
        ColdMiddle y = Due.lunch("sw1h1;f");
        Due.due("tell(0,false) of one CELL", y.tell(0, false), 1);
        Due.due("weak(1,0)", y.weak(1, 0), 1);
        Due.due("tell(0,true), both", y.tell(0, true), 2);
        Due.due("weak(1,-1), both", y.weak(1, -1), 0);
        ColdMiddle food = Due.lunch("sw5h5;f");
        Due.due("tell(24,true), without FOOD", food.tell(24, true), 1);
        Due.due("tell(25,true)", food.tell(25, true), NONE);
    }

    private static void weakCells() {
        Due.sentence("WEAK: k (1, 2) weak CELLS; how many (i NONE), the i-th (rising). NONE: no such one, no LUNCH, out of "
                + "bounds");
        for (int width = 1; width <= 5; width++) {
            for (int height = 1; height <= 5; height += 2) {
                ColdMiddle x = Due.lunch("sw" + width + "h" + height + ";f");
                int cells = width * height;
                int pairs = cells * (cells - 1) / 2;
                Due.due("weak(1,NONE) of " + cells, x.weak(1, NONE), cells);
                Due.due("weak(2,NONE) of " + cells, x.weak(2, NONE), pairs);
                Due.due("weak(1,0)", x.weak(1, 0), 1);
                Due.due("weak(1,last)", x.weak(1, cells - 1), 1 << (cells - 1));
                Due.due("weak(1,last + 1)", x.weak(1, cells), NONE);
                Due.due("weak(2,0)", x.weak(2, 0), cells > 1 ? 3 : NONE);
                Due.due("weak(2,last)", x.weak(2, pairs - 1), cells == 1 ? 0 : 3 << (cells - 2));
                Due.due("weak(2,last + 1)", x.weak(2, pairs), NONE);
            }
        }
        ColdMiddle x = Due.lunch("sw5h1;f");
        int[] pairs = {3, 5, 6, 9, 10, 12, 17, 18, 20, 24};
        for (int i = 0; i < 10; i++) {
            Due.due("weak(2," + i + ")", x.weak(2, i), pairs[i]);
        }
        for (int i : new int[] {-2, 10, Integer.MIN_VALUE, Integer.MAX_VALUE}) {
            Due.due("weak(2," + i + ")", x.weak(2, i), NONE);
            Due.due("weak(1," + i + ")", x.weak(1, i), NONE);
        }
        for (int k : new int[] {0, 3, -1, Integer.MIN_VALUE, Integer.MAX_VALUE}) {
            Due.due("weak(" + k + ",NONE)", x.weak(k, NONE), NONE);
            Due.due("weak(" + k + ",0)", x.weak(k, 0), NONE);
        }
        Due.sentence("in others it gets warm: sets by which all DISHES are so");
        x.tell(2, false);
        Due.due("weak(1,NONE)", x.weak(1, NONE), 1);
        Due.due("weak(1,0)", x.weak(1, 0), 4);
        Due.due("weak(2,NONE)", x.weak(2, NONE), 4);
        x.tell(4, true);
        Due.due("weak(2,NONE)", x.weak(2, NONE), 3);
        Due.due("weak(2,2)", x.weak(2, 2), 12);
        x.tell(0, false);
        Due.due("weak(1,NONE), two are weak", x.weak(1, NONE), 0);
        Due.due("weak(1,0), none", x.weak(1, 0), NONE);
        Due.due("weak(2,NONE)", x.weak(2, NONE), 1);
        Due.due("weak(2,0)", x.weak(2, 0), 5);
        x.tell(1, false);
        Due.due("weak(2,NONE), three are weak", x.weak(2, NONE), 0);
        Due.due("best(2)", x.best(2), NONE);
    }

    private static void lookNext() {
        Due.sentence("LOOK for k: the CELL by which yes and no are least apart in number among what fits (of several the "
                + "lowest). NONE: nothing fits, no LUNCH, out of bounds");
        Due.due("one CELL, k 1", Due.lunch("sw1h1;f").best(1), 0);
        Due.due("one CELL, k 2: nothing fits", Due.lunch("sw1h1;f").best(2), NONE);
        Due.due("two CELLS, k 2", Due.lunch("sw2h1;f").best(2), 0);
        Due.due("25 CELLS, k 1", Due.lunch("sw5h5;f").best(1), 0);
        Due.due("25 CELLS, k 2", Due.lunch("sw5h5;f").best(2), 0);
        ColdMiddle x = Due.lunch("sw5h1;f");
        for (int k : new int[] {0, 3, -1, Integer.MIN_VALUE, Integer.MAX_VALUE}) {
            Due.due("best(" + k + ")", x.best(k), NONE);
        }
        x.tell(0, true);
        x.tell(1, true);
        Due.due("best(1): 2, 3, 4 are left", x.best(1), 2);
        x.tell(2, true);
        Due.due("best(1): 3, 4 are left", x.best(1), 3);
        x.tell(3, true);
        Due.due("best(1): 4 is left: all are as far", x.best(1), 0);
        Due.due("best(2): nothing fits", x.best(2), NONE);
        x.tell(4, true);
        Due.due("best(1): nothing fits", x.best(1), NONE);
        ColdMiddle one = Due.lunch("sw3h1;f");
        one.tell(0, false);
        Due.due("best(1): 0 is it: all are as far", one.best(1), 0);
        one.tell(1, false);
        Due.due("best(2): 0 and 1 are it: all are as far", one.best(2), 0);
        ColdMiddle y = Due.lunch("sw4h1;f");
        y.tell(3, false);
        // Pairs with 3: the others are in one of three, 3 in all, so 0.
        Due.due("best(2): one of three", y.best(2), 0);
        y.tell(0, true);
        Due.due("best(2): one of two", y.best(2), 1);
    }

    // ---- ONCE, ORDER, TOGETHER

    private static void once() {
        Due.sentence("ONCE: with k (1 .. 4) plates each has POWER by k, cut; one by one: k times LENGTH. NONE: not within 60, "
                + "no LUNCH, out of bounds");
        ColdMiddle x = Due.lunch("sw1h1p9a90b99;fd0", "y:p");
        int[] atOnce = {10, 23, 30, 45};
        for (int k = 1; k <= 4; k++) {
            Due.due("once(" + k + ",0)", x.once(k, 0), atOnce[k - 1]);
            Due.due("once(" + k + ",1)", x.once(k, 1), 10 * k);
        }
        for (int k : new int[] {0, 5, -1, Integer.MIN_VALUE, Integer.MAX_VALUE}) {
            Due.due("once(" + k + ",0)", x.once(k, 0), NONE);
            Due.due("once(" + k + ",1)", x.once(k, 1), NONE);
        }
        for (int what : new int[] {-1, 2, Integer.MIN_VALUE, Integer.MAX_VALUE}) {
            Due.due("once(1," + what + ")", x.once(1, what), NONE);
        }
        for (int full = 1; full <= 4; full++) {
            ColdMiddle y = Due.lunch("sw1h1a40p" + full + ";fd0", "y:40");
            for (int k = 1; k <= 4; k++) {
                Due.due("once(" + k + ",0) of full POWER " + full, y.once(k, 0), full >= k ? 1 : NONE);
                Due.due("once(" + k + ",1) of full POWER " + full, y.once(k, 1), k);
            }
        }
        ColdMiddle sixty = Due.lunch("sw1h1p4a80b99;fd20", SLOW);
        ColdMiddle more = Due.lunch("sw1h1p4a80b99;fd19", SLOW);
        for (int k = 1; k <= 4; k++) {
            Due.due("once(" + k + ",0), sixty", sixty.once(k, 0), 60);
            Due.due("once(" + k + ",1), sixty", sixty.once(k, 1), 60 * k);
            Due.due("once(" + k + ",0), 61", more.once(k, 0), NONE);
            Due.due("once(" + k + ",1), 61", more.once(k, 1), NONE);
        }
        ColdMiddle safe = Due.lunch("sw1h1p1a30;fd30");
        for (int k = 1; k <= 4; k++) {
            Due.due("once(" + k + ",0), SAFE now", safe.once(k, 0), 0);
            Due.due("once(" + k + ",1), SAFE now", safe.once(k, 1), 0);
        }
    }

    private static void order() {
        Due.sentence("ORDER: the digits (0; 0 without DISHES), that (1). NONE: no LUNCH, no such what");
        ColdMiddle none = Due.lunch("f");
        Due.due("order(0) without DISHES", none.order(0), 0);
        Due.due("order(1) without DISHES", none.order(1), 0);
        ColdMiddle one = Due.lunch("f;dn30w9");
        Due.due("order(0) of one", one.order(0), 0);
        Due.due("order(1) of one", one.order(1), 270);
        for (int what : new int[] {-1, 2, Integer.MIN_VALUE, Integer.MAX_VALUE}) {
            Due.due("order(" + what + ")", one.order(what), NONE);
            Due.due("order(" + what + ") without DISHES", none.order(what), NONE);
        }
        ColdMiddle most = Due.lunch("f;dn30w9;dn30w9;dn30w9;dn30w9;dn30w9;dn30w9");
        Due.due("order(0) of the most", most.order(0), 12345);
        Due.due("order(1) of the most", most.order(1), 9 * 30 * 21);
        ColdMiddle down = Due.lunch("f;dn6;dn5;dn4;dn3;dn2;dn1");
        Due.due("order(0), the last first", down.order(0), 543210);
        Due.due("order(1)", down.order(1), 1 + 3 + 6 + 10 + 15 + 21);
        Due.sentence("ORDER: of several the least");
        Due.due("none minds", Due.lunch("f;dn9w0;dn1w0;dn5w0").order(0), 12);
        Due.due("none minds", Due.lunch("f;dn9w0;dn1w0;dn5w0").order(1), 0);
        Due.due("alike", Due.lunch("f;dn2w1;dn4w2;dn6w3").order(0), 12);
        Due.due("two alike behind one", Due.lunch("f;dn9;dn9;dn1").order(0), 201);
        Due.due("one who does not mind is last", Due.lunch("f;dn1w0;dn30w1").order(0), 10);
        Due.due("what each minds times the TENS till it is done", Due.lunch("f;dn1w0;dn30w1").order(1), 30);
    }

    private static void together() {
        Due.sentence("TOGETHER: the fewest TENS in which k (1, 2) OVENS can have done all DISHES. NONE: no LUNCH, out of "
                + "bounds");
        int[][] tens = {{}, {7}, {7, 7}, {30, 1}, {1, 30}, {8, 7, 6, 5, 4}, {30, 30, 30, 30, 30, 30}, {5, 5, 4, 3, 3},
            {1, 1, 1, 1, 1, 1}, {6, 5, 4, 3, 2, 1}};
        int[] one = {0, 7, 14, 31, 31, 30, 180, 20, 6, 21};
        int[] two = {0, 7, 7, 30, 30, 15, 90, 10, 3, 11};
        for (int i = 0; i < tens.length; i++) {
            StringBuilder text = new StringBuilder("f");
            for (int n : tens[i]) {
                text.append(";dn").append(n);
            }
            ColdMiddle x = Due.lunch(text.toString());
            Due.due("together(1) of " + text, x.together(1), one[i]);
            Due.due("together(2) of " + text, x.together(2), two[i]);
            Due.due("count(11), WAITS of " + text, x.count(11), one[i]);
            for (int k : new int[] {0, 3, -1, Integer.MIN_VALUE, Integer.MAX_VALUE}) {
                Due.due("together(" + k + ")", x.together(k), NONE);
            }
        }
    }

    // ---- BITE, ODDS

    private static void bite() {
        Due.sentence("BITE: the FOOD (CELL) that is least warm (most ICE, then least DEGREES; of several the lowest)");
        Due.due("most ICE", Due.lunch("fd0;fc1i1d49;fc2i2d49;fc3i1d0").bite(), 2);
        Due.due("most ICE, then least DEGREES", Due.lunch("fd0;fc1i2d9;fc2i2d8;fc3i2d9").bite(), 2);
        Due.due("of several the lowest", Due.lunch("fc4;fc9;fc2").bite(), 2);
        Due.due("of several the first", Due.lunch("fc4;fc9;f").bite(), 0);
        Due.due("the first has most ICE", Due.lunch("fi9d49;fc9i8d0").bite(), 0);
        Due.due("the first has least DEGREES", Due.lunch("fd8;fc9d9").bite(), 0);
        Due.due("of several with ICE", Due.lunch("f;fc4i9;fc9i9").bite(), 4);
        Due.due("least DEGREES", Due.lunch("fd1;fc15d0").bite(), 15);
        Due.due("one FOOD in the last CELL", Due.lunch("sw5h5;fc24d49").bite(), 24);
        ColdMiddle x = Due.lunch("fd0;fc1d1");
        x.eat(0);
        Due.due("EATEN FOOD is none", x.bite(), 1);
    }

    private static void oddsOfTens() {
        Due.sentence("ODDS of n (0 .. 8) TENS at full POWER, each STIRRED ahead by a chance (0 .. 100). NONE: no LUNCH, out of "
                + "bounds");
        int all = 1000000000;
        ColdMiddle x = Due.lunch("sw2h1s0a30;fd20;fc1d40", "y:0");
        for (int n = 0; n <= 8; n++) {
            Due.due("odds(" + n + ",0)", x.odds(n, 0), 0);
            Due.due("odds(" + n + ",100)", x.odds(n, 100), n == 0 ? 0 : all);
        }
        Due.due("odds(1,1)", x.odds(1, 1), 10000000);
        Due.due("odds(1,99)", x.odds(1, 99), 990000000);
        for (int n : new int[] {-1, 9, Integer.MIN_VALUE, Integer.MAX_VALUE}) {
            Due.due("odds(" + n + ",50)", x.odds(n, 50), NONE);
        }
        for (int chance : new int[] {-1, 101, Integer.MIN_VALUE, Integer.MAX_VALUE}) {
            Due.due("odds(1," + chance + ")", x.odds(1, chance), NONE);
            Due.due("odds(0," + chance + ")", x.odds(0, chance), NONE);
        }
        ColdMiddle safe = Due.lunch("sw1h1a30;fd30", "y:0");
        for (int chance = 0; chance <= 100; chance++) {
            Due.due("odds(0," + chance + "), SAFE now", safe.odds(0, chance), all);
        }
        Due.due("odds(8,7), SAFE by all ways", safe.odds(8, 7), all);
        Due.sentence("ODDS: by which it is SAFE then, not ahead of it");
        ColdMiddle bursts = Due.lunch("sw1h1b50a45;fd44", "y:3");
        Due.due("odds(1,0): 47", bursts.odds(1, 0), all);
        Due.due("odds(2,0): 50, then 40", bursts.odds(2, 0), 0);
        Due.sentence("ODDS: TENS at full POWER");
        ColdMiddle full = Due.lunch("sw1h1p9a49;fd40", "y:p");
        Due.due("odds(1,0)", full.odds(1, 0), all);
    }

    private static void oddsAreCut() {
        Due.sentence("chance by 100 of each part, cut, STIRRED, the rest not; of all ways");
        // SAFE is it when it was stirred once at least: what is left is never stirred.
        ColdMiddle x = Due.lunch("sw2h1s0a30;fd20;fc1d40", "y:0");
        for (int chance = 0; chance <= 100; chance++) {
            long left = 1000000000;
            for (int i = 0; i < 8; i++) {
                left -= left * chance / 100;
            }
            Due.due("odds(8," + chance + ")", x.odds(8, chance), 1000000000 - left);
        }
        // Each of the 256 ways gone by hand; those that are SAFE, by their parts.
        String text = "sw2h1s2b63a57;fd16i2;fc1d45;ms0";
        boolean[] isSafe = new boolean[256];
        for (int way = 0; way < 256; way++) {
            ColdMiddle hand = Due.lunch(text);
            for (int i = 0; i < 8; i++) {
                if ((way >> i & 1) == 1) {
                    hand.stir();
                }
                hand.cook(1, 4);
            }
            isSafe[way] = hand.count(8) == 1;
        }
        ColdMiddle y = Due.lunch(text);
        int some = 0;
        for (int chance = 0; chance <= 100; chance++) {
            long want = 0;
            for (int way = 0; way < 256; way++) {
                long parts = 1000000000;
                for (int i = 0; i < 8; i++) {
                    long stirred = parts * chance / 100;
                    parts = (way >> i & 1) == 1 ? stirred : parts - stirred;
                }
                want += isSafe[way] ? parts : 0;
            }
            Due.due("odds(8," + chance + ") of " + text, y.odds(8, chance), want);
            some += want > 0 && want < 1000000000 ? 1 : 0;
        }
        Due.due("chances by which it is SAFE by some ways alone", some >= 98, true);
    }

    // ---- SET, HOW

    private static void setTen() {
        Due.sentence("SET: told (10 at most): a CELL has d (0 .. 99) DEGREES or more now, or not. NONE: no FOOD as told in the "
                + "CELL, out of bounds, there are ten");
        ColdMiddle x = Due.lunch("sw2h2;f;fc3");
        for (int cell : new int[] {-1, 1, 2, 4, 24, 25, Integer.MIN_VALUE, Integer.MAX_VALUE}) {
            Due.due("set(" + cell + ",0,true)", x.set(cell, 0, true), NONE);
        }
        for (int d : new int[] {-1, 100, Integer.MIN_VALUE, Integer.MAX_VALUE}) {
            Due.due("set(0," + d + ",true)", x.set(0, d, true), NONE);
            Due.due("set(0," + d + ",false)", x.set(0, d, false), NONE);
        }
        Due.due("count(14)", x.count(14), 0);
        Due.due("how(NONE), refused", x.how(NONE), 80);
        Due.due("set(0,99,false)", x.set(0, 99, false), 1);
        Due.due("set(3,0,true)", x.set(3, 0, true), 2);
        Due.due("how(NONE), all have", x.how(NONE), 80);
        for (int i = 3; i <= 10; i++) {
            Due.due("set the " + i, x.set(i % 2 * 3, 1, true), i);
            Due.due("count(14)", x.count(14), i);
        }
        Due.due("set the 11th", x.set(0, 99, true), NONE);
        Due.due("count(14)", x.count(14), 10);
        Due.due("how(NONE), refused", x.how(NONE), 80);
        Due.dueStatus("these", x, "0 0 0 0");
        Due.due("count(16), no ACT", x.count(16), 0);
        Due.sentence("set: FOOD as told in the CELL, wherever it is now");
        ColdMiddle y = Due.lunch("sw3h1;f;fc1");
        y.move(0, 2);
        y.eat(1);
        Due.due("set(0,0,true), MOVED", y.set(0, 0, true), 1);
        Due.due("set(1,0,true), EATEN", y.set(1, 0, true), 2);
        Due.due("set(2,0,true), not as told", y.set(2, 0, true), NONE);
    }

    private static void how() {
        Due.sentence("HOW: 100 times a POWER (1 .. full) and TENS (1 .. 20): how many (i NONE), the i-th (rising). NONE: no "
                + "such one, no LUNCH");
        for (int full = 1; full <= 9; full++) {
            ColdMiddle x = Due.lunch("sw1h1p" + full + ";f");
            Due.due("how(NONE), nothing SET, full POWER " + full, x.how(NONE), 20 * full);
            Due.due("how(0)", x.how(0), 101);
            Due.due("how(19)", x.how(19), 120);
            Due.due("how(20)", x.how(20), full > 1 ? 201 : NONE);
            Due.due("how(last)", x.how(20 * full - 1), 100 * full + 20);
            for (int i : new int[] {20 * full, -2, Integer.MIN_VALUE, Integer.MAX_VALUE}) {
                Due.due("how(" + i + ")", x.how(i), NONE);
            }
        }
        Due.sentence("HOW: DEGREES or more, or not");
        // 1 more by POWER 1, 2 more by POWER 2.
        ColdMiddle x = Due.lunch("sw1h1p2b99;fd40", "y:p");
        x.set(0, 60, true);
        Due.due("how(NONE): 60 of 60 or more", x.how(NONE), 1 + 11);
        Due.due("how(0)", x.how(0), 120);
        Due.due("how(1)", x.how(1), 210);
        Due.due("how(11)", x.how(11), 220);
        Due.due("how(12)", x.how(12), NONE);
        x.set(0, 61, false);
        Due.due("how(NONE): just 60", x.how(NONE), 2);
        Due.due("how(1)", x.how(1), 210);
        x.set(0, 41, false);
        Due.due("how(NONE): none", x.how(NONE), 0);
        Due.due("how(0)", x.how(0), NONE);
        ColdMiddle first = Due.lunch("sw1h1p1b99;fd40", "y:p");
        first.set(0, 41, true);
        Due.due("how(NONE): from the first on", first.how(NONE), 20);
        first.set(0, 42, false);
        Due.due("how(NONE): the first alone", first.how(NONE), 1);
        Due.due("how(0)", first.how(0), 101);
        ColdMiddle never = Due.lunch("sw1h1p9;f");
        never.set(0, 0, false);
        Due.due("how(NONE): never below 0", never.how(NONE), 0);
        ColdMiddle always = Due.lunch("sw1h1p9b99;f");
        always.set(0, 99, false);
        Due.due("how(NONE): it BURSTS at 99", always.how(NONE), 180);
        always.set(0, 99, true);
        Due.due("how(NONE): never 99", always.how(NONE), 0);
        Due.sentence("HOW: from the LUNCH as told (not TURNING), by the LAW that holds");
        ColdMiddle now = Due.lunch("sw3h1p1s0b99;fd40;fc1d9;ms0;mc2s20", "y:m");
        now.turn(true);
        now.cook(7, 1);
        now.move(0, 2);
        now.eat(1);
        now.set(0, 41, false);
        Due.due("how(NONE)", now.how(NONE), 20);
        now.set(1, 29, true);
        now.set(1, 30, false);
        Due.due("how(0): twice 10 more", now.how(0), 102);
        Due.due("how(NONE)", now.how(NONE), 1);
        now.law(NONE);
        Due.due("how(NONE), no LAW: 3 EDGES each for 0", now.how(NONE), 0);
    }

    // ---- as it is now

    private static void meanAndHottest() {
        Due.sentence("MEAN: DEGREES of all, cut");
        Due.due("mean()", Due.lunch("fd0;fc1d1").mean(), 0);
        Due.due("mean()", Due.lunch("fd1;fc1d1").mean(), 1);
        Due.due("mean() with ICE", Due.lunch("fd10i99;fc1d11;fc2d11").mean(), 10);
        Due.due("mean() of one", Due.lunch("fc15d49").mean(), 49);
        Due.due("mean() of 0", Due.lunch("fd0").mean(), 0);
        Due.sentence("HOTTEST: the CELL with the most DEGREES (of several the lowest)");
        Due.due("hottest()", Due.lunch("fd8;fc1d9;fc2d9").hottest(), 1);
        Due.due("hottest(), the first", Due.lunch("fd9;fc1d8;fc2d8").hottest(), 0);
        Due.due("hottest(), all alike from the first on", Due.lunch("f;fc1;fc2").hottest(), 0);
        Due.due("hottest(), all alike", Due.lunch("fc9;fc3;fc7").hottest(), 3);
        Due.due("hottest(), all 0", Due.lunch("fc9d0;fc3d0").hottest(), 3);
        Due.due("hottest(), ICE is no matter", Due.lunch("fd8;fc1d9i99").hottest(), 1);
        Due.due("hottest(), the last CELL", Due.lunch("sw5h5;fd48;fc24d49").hottest(), 24);
    }

    private static void rimAndLump() {
        Due.sentence("RIM: CELLS (bits) with FOOD and two EDGES or more");
        Due.due("one EDGE, none, two", Due.lunch("sw3h3;f;fc1;fc2;fc3;fc4;fc5;fc6;fc7;fc8").rim(), 1 + 4 + 64 + 256);
        Due.due("four EDGES", Due.lunch("sw5h5;fc24").rim(), 1 << 24);
        Due.due("three EDGES", Due.lunch("sw2h1;f;fc1").rim(), 3);
        Due.due("a block with no rim inside", Due.lunch("sw3h3;fc1;fc3;fc4;fc5;fc7").rim(), 2 + 8 + 32 + 128);
        Due.sentence("LUMP: CELLS (bits) with ICE");
        Due.due("ICE 1 and 0", Due.lunch("fi1;fc1i0;fc15i99").lump(), 1 + (1 << 15));
        Due.due("none", Due.lunch("f").lump(), 0);
        Due.due("the last CELL", Due.lunch("sw5h5;fc24i1").lump(), 1 << 24);
        ColdMiddle x = Due.lunch("sw1h1;fi1", "y:2");
        x.cook(1, 1);
        Due.due("lump() behind it", x.lump(), 0);
    }

    private static void joined() {
        Due.sentence("JOINED to FOOD: CELLS (bits) with FOOD to which one comes from it by FOOD beside (itself, too)");
        Due.due("one", Due.lunch("sw5h5;fc24").joined(24), 1 << 24);
        ColdMiddle x = Due.lunch("sw3h3;f;fc4;fc8;fc2");
        for (int cell : new int[] {0, 2, 4, 8}) {
            Due.due("joined(" + cell + "), aslant is not beside", x.joined(cell), 1 << cell);
        }
        Due.due("a row's end", Due.lunch("sw3h2;fc2;fc3").joined(2), 4);
        Due.due("below", Due.lunch("sw3h2;fc2;fc5").joined(5), 4 + 32);
        // As long a way as twelve FOODS have.
        String way = "sw5h5;f;fc5;fc10;fc15;fc20;fc21;fc22;fc23;fc24;fc19;fc14;fc9";
        int bits = 0;
        for (int cell : new int[] {0, 5, 10, 15, 20, 21, 22, 23, 24, 19, 14, 9}) {
            bits |= 1 << cell;
        }
        Due.due("joined(0), twelve", Due.lunch(way).joined(0), bits);
        Due.due("joined(9), twelve", Due.lunch(way).joined(9), bits);
        Due.sentence("joined: NONE: no such CELL, no FOOD there");
        for (int cell : new int[] {-1, 1, 9, 25, Integer.MIN_VALUE, Integer.MAX_VALUE}) {
            Due.due("joined(" + cell + ")", x.joined(cell), NONE);
        }
    }

    private static void next() {
        Due.sentence("NEXT: DEGREES of FOOD behind a TEN at a POWER. NONE: no such CELL, no FOOD there, out of bounds");
        ColdMiddle x = Due.lunch("sw2h1p9;fd10", "y:p");
        for (int power = 0; power <= 9; power++) {
            Due.due("next(0," + power + ")", x.next(0, power), 10 + power);
        }
        for (int power : new int[] {-1, 10, Integer.MIN_VALUE, Integer.MAX_VALUE}) {
            Due.due("next(0," + power + ")", x.next(0, power), NONE);
        }
        for (int cell : new int[] {-1, 1, 2, Integer.MIN_VALUE, Integer.MAX_VALUE}) {
            Due.due("next(" + cell + ",0)", x.next(cell, 0), NONE);
            Due.due("next(" + cell + ",10)", x.next(cell, 10), NONE);
        }
        Due.due("DEGREES, apart", Due.degrees(x, 0), 10);
    }

    private static void counts() {
        Due.sentence("count: 0 .. 16; HIDDEN for others");
        for (ColdMiddle x : new ColdMiddle[] {new ColdMiddle(), Due.lunch("f")}) {
            for (int what = 0; what <= 16; what++) {
                Due.due("count(" + what + ") is HIDDEN", x.count(what) == HIDDEN, false);
            }
            for (int what : new int[] {-1, 17, -2, 18, HIDDEN, Integer.MIN_VALUE, Integer.MAX_VALUE}) {
                Due.due("count(" + what + ")", x.count(what), HIDDEN);
            }
        }
        Due.sentence("count: ICE of all, how many have BURST, FOODS now");
        ColdMiddle x = Due.lunch("sw4h3b50;fi99;fc1i99;fc2i99;fc3i99;fc4i99;fc5i99;fc6i99;fc7i99;fc8i99;fc9i99;fc10i99;"
                + "fc11i99");
        Due.due("count(10)", x.count(10), 12 * 99);
        Due.due("count(1)", x.count(1), 12);
        Due.due("count(9)", x.count(9), 0);
        x.eat(11);
        Due.due("count(10)", x.count(10), 11 * 99);
        Due.due("count(1)", x.count(1), 11);
        Due.due("count(0)", x.count(0), 12);
    }

    private static void withoutALunch() {
        Due.sentence("NONE: no LUNCH (no such CELL); HIDDEN: no LUNCH");
        ColdMiddle x = new ColdMiddle();
        int[] none = {x.oven(0), x.dish(0, 0), x.span(0), x.soonest(0), x.soonest(1), x.without(), x.heats(0, 0, 0),
            x.place(0, 1), x.tell(0, true), x.weak(1, NONE), x.weak(1, 0), x.best(1), x.once(1, 0), x.once(1, 1),
            x.order(0), x.order(1), x.together(1), x.together(2), x.bite(), x.odds(0, 0), x.set(0, 0, true), x.how(NONE),
            x.how(0), x.mean(), x.hottest(), x.rim(), x.lump(), x.joined(0), x.next(0, 0), x.log(0, 0), x.undo()};
        for (int i = 0; i < none.length; i++) {
            Due.due("the answer " + i + " without a LUNCH", none[i], NONE);
        }
        Due.due("turning(1)", x.turning(1), HIDDEN);
        Due.due("runs(1,0)", x.runs(1, 0), HIDDEN);
        Due.due("spot(0,0)", Due.spot(x, 0, 0), Due.THROWN);
        for (int what = 0; what <= 16; what++) {
            Due.due("count(" + what + ")", x.count(what), what == 5 ? NONE : 0);
        }
        Due.dueStatus("these", x, "0 0 0 0");
    }
}

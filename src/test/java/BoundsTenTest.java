/** Each sentence that names a bound of a TEN, of what is done by hand, of ACTS, LOG, STATUS, HABITS and IMAGES. */
public final class BoundsTenTest {
    private static final int NONE = Due.NONE;

    public static void main(String[] args) {
        warms();
        heldWithin99();
        byPowerNought();
        thaws();
        turnsByOddTens();
        spreads();
        spreadsOnIce();
        bursts();
        safe();
        cooksOneToSixty();
        lastTen();
        stirred();
        turned();
        moved();
        eaten();
        lastFood();
        fortyActs();
        eachIsOneAct();
        fortyBehindAny();
        sixtyInTheLog();
        logOfATen();
        statusOfSeveral();
        statusIsNotUndone();
        stirsNoughtToNine();
        habitsOneToSixty();
        habitsDraw();
        habitsAreActs();
        images();
        imagesAtTheirEnds();
        withoutALunch();
        thinnest();
        Due.end();
    }

    // ---- (1) what FOOD gets

    private static void dueGain(String lunch, int cell, int power, int want) {
        ColdMiddle x = Due.lunch(lunch);
        int before = Due.degrees(x, cell);
        x.cook(1, power);
        Due.due("DEGREES more of " + cell + " of " + lunch + " by " + power, Due.degrees(x, cell) - before, want);
    }

    private static void warms() {
        Due.sentence("POWER times SHARE, by 10, cut");
        int[] byOne = {0, 0, 0, 0, 0, 0, 0, 0, 0, 0, 1, 1, 1, 1, 1, 1, 1, 1, 1, 1, 2};
        for (int share = 0; share <= 20; share++) {
            dueGain("sw1h1p9;f;ms" + share, 0, 1, byOne[share] + 4);
            dueGain("sw1h1p9;f;ms" + share, 0, 9, 9 * share / 10 + 4);
        }
        Due.sentence("less THICK by 4, cut");
        int[] less = {0, 0, 0, 1, 1, 1, 1, 2, 2};
        for (int thick = 1; thick <= 9; thick++) {
            dueGain("sw1h1;ft" + thick, 0, 4, 8 - less[thick - 1]);
        }
        Due.sentence("1 for each EDGE; EDGES: sides beside which there is no FOOD, or no CELL");
        dueGain("sw3h3s0;fc4", 4, 4, 8);
        dueGain("sw3h3s0;fc4;fc1", 4, 4, 7);
        dueGain("sw3h3s0;fc4;fc1;fc3", 4, 4, 6);
        dueGain("sw3h3s0;fc4;fc1;fc3;fc5", 4, 4, 5);
        dueGain("sw3h3s0;fc4;fc1;fc3;fc5;fc7", 4, 4, 4);
        dueGain("sw3h3s0;fc4;f;fc2;fc6;fc8", 4, 4, 8);
        int[] edges = {2, 1, 2, 1, 0, 1, 2, 1, 2};
        ColdMiddle all = Due.lunch("sw3h3;f;fc1;fc2;fc3;fc4;fc5;fc6;fc7;fc8");
        for (int cell = 0; cell < 9; cell++) {
            Due.due("EDGES of " + cell, Due.spot(all, cell, 4), edges[cell]);
        }
        ColdMiddle row = Due.lunch("sw5h1;f;fc1;fc2;fc3;fc4");
        for (int cell = 0; cell < 5; cell++) {
            Due.due("EDGES of " + cell + " in a row", Due.spot(row, cell, 4), cell == 0 || cell == 4 ? 3 : 2);
        }
    }

    private static void heldWithin99() {
        Due.sentence("held within 0 .. 99");
        String middle = "sw3h3s0;fc4t9d10;fc1;fc3;fc5;fc7;mc4s0";
        dueGain(middle, 4, 4, 0);
        dueGain("sw3h3s0;fc4t4d10;fc1;fc3;fc5;fc7;mc4s0", 4, 4, 0);
        dueGain("sw3h3s0;fc4t9d10;fc1;fc3;fc5;fc7;mc4s10", 4, 4, 2);
        dueGain("sw3h3s0;fc4t9d0;fc1;fc3;fc5;fc7;mc4s0", 4, 4, 0);
        ColdMiddle ice = Due.lunch("sw3h3s0;fc4t9i9;fc1;fc3;fc5;fc7;mc4s0");
        ice.cook(1, 4);
        Due.due("ICE is not more", Due.ice(ice, 4), 9);
        int[] worths = {0, 1, 2, 96, 97, 98, 99, 100, 101, 200, 9999};
        int[] less = {0, 0, 1, 48, 48, 49, 49, 49, 49, 49, 49};
        for (int i = 0; i < worths.length; i++) {
            ColdMiddle x = Due.lunch("sw1h1;fi99", "y:" + worths[i]);
            x.cook(1, 1);
            Due.due("ICE less by a WORTH of " + worths[i], 99 - Due.ice(x, 0), less[i]);
        }
        for (int worth : new int[] {1, 2, 9999}) {
            ColdMiddle x = Due.lunch("sw2h1;fi99;fc1d10", "y:0-" + worth);
            x.cook(1, 1);
            Due.due("ICE by a WORTH of -" + worth, Due.ice(x, 0), 99);
            Due.due("DEGREES by a WORTH of -" + worth, Due.degrees(x, 1), 10);
        }
        // 98 stays below the most at which it can BURST, 99 does not: so it is not held below.
        for (int worth : new int[] {98, 99, 100, 9999}) {
            ColdMiddle x = Due.lunch("sw1h1b99;fd0", "y:" + worth);
            x.cook(1, 1);
            Due.due("DEGREES by a WORTH of " + worth, Due.degrees(x, 0), worth == 98 ? 98 : 89);
            Due.due("BURST by a WORTH of " + worth, Due.spot(x, 0, 5), worth == 98 ? 0 : 1);
        }
        ColdMiddle million = Due.lunch("sw1h1;fi99", "y:1000*1000");
        million.cook(1, 1);
        Due.due("ICE less by a million", 99 - Due.ice(million, 0), 49);
        ColdMiddle below = Due.lunch("sw1h1;fi99", "y:0-1000*1000");
        below.cook(1, 1);
        Due.due("ICE less by a million below", 99 - Due.ice(below, 0), 0);
    }

    private static void byPowerNought() {
        Due.sentence("by POWER above 0; by POWER 0 nothing");
        dueGain("sw1h1;f", 0, 0, 0);
        dueGain("sw1h1p1;f", 0, 0, 0);
        dueGain("sw1h1p1;f", 0, 1, 5);
        dueGain("sw1h1p9;f", 0, 9, 13);
        ColdMiddle x = Due.lunch("sw2h1s0;fd10;fc1i9", "y:9");
        x.cook(1, 0);
        Due.due("DEGREES, by a LAW", Due.degrees(x, 0), 10);
        Due.due("ICE, by a LAW", Due.ice(x, 1), 9);
        x.cook(1, 1);
        Due.due("DEGREES, by a LAW and POWER 1", Due.degrees(x, 0), 19);
        Due.due("ICE, by a LAW and POWER 1", Due.ice(x, 1), 5);
    }

    private static void thaws() {
        Due.sentence("With ICE: ICE is half of that less, cut (0 at least), DEGREES stay; without: DEGREES are more by it");
        for (int ice = 0; ice <= 9; ice++) {
            for (int gain = 0; gain <= 12; gain++) {
                ColdMiddle x = Due.lunch("sw1h1;fd10i" + ice, "y:" + gain);
                x.cook(1, 1);
                Due.due("ICE of " + ice + " by " + gain, Due.ice(x, 0), ice == 0 ? 0 : Math.max(0, ice - gain / 2));
                Due.due("DEGREES with ICE of " + ice + " by " + gain, Due.degrees(x, 0), ice == 0 ? 10 + gain : 10);
            }
        }
        ColdMiddle most = Due.lunch("sw1h1;fi99", "y:99");
        most.cook(3, 1);
        Due.due("ICE of 99 behind three", Due.ice(most, 0), 0);
        Due.due("DEGREES behind three", Due.degrees(most, 0), 10);
    }

    private static void turnsByOddTens() {
        Due.sentence("SHARE: if the plate TURNS and the number of the TEN is odd, of the CELL that lies opposite");
        ColdMiddle x = Due.lunch("sw3h2s0b99;fc1d0;mc1s0;mc4s10");
        x.turn(true);
        // POWER 4 and 4 EDGES: 4 by SHARE 0, 8 by SHARE 10.
        int[] want = {4, 12, 16, 24, 28, 36};
        for (int ten = 0; ten < 6; ten++) {
            x.cook(1, 4);
            Due.due("DEGREES behind the TEN " + ten, Due.degrees(x, 1), want[ten]);
            Due.due("spot(1,0) tells its own", Due.spot(x, 1, 0), 0);
        }
        ColdMiddle middle = Due.lunch("sw3h1s0b99;fc1d0;mc1s0");
        middle.turn(true);
        middle.cook(2, 4);
        Due.due("the middle lies opposite itself", Due.degrees(middle, 1), 8);
        ColdMiddle ends = Due.lunch("sw5h5s0b99;fc24d0;f;ms20;mc24s0");
        ends.turn(true);
        ends.cook(1, 4);
        ends.cook(1, 4);
        Due.due("the last, by the first's", Due.degrees(ends, 24), 4 + 12);
        Due.due("the first, by the last's", Due.degrees(ends, 0), 10 + 12 + 4);
        ColdMiddle law = Due.lunch("sw2h1s0;fd0;ms1;mc1s9", "y:m");
        law.turn(true);
        law.cook(2, 1);
        Due.due("m by a LAW", Due.degrees(law, 0), 10);
    }

    // ---- (2) it SPREADS

    private static void dueSpread(String lunch, int... want) {
        ColdMiddle x = Due.lunch(lunch);
        x.cook(1, 0);
        for (int cell = 0; cell < want.length; cell++) {
            Due.due("DEGREES of " + cell + " of " + lunch, Due.degrees(x, cell), want[cell]);
        }
    }

    private static void spreads() {
        Due.sentence("how many DEGREES that one has more (or fewer), times SPREAD, by 20, each cut towards 0");
        dueSpread("sw2h1s0;fd0;fc1d49", 0, 49);
        dueSpread("sw2h1s1;fd10;fc1d29", 10, 29);
        dueSpread("sw2h1s1;fd10;fc1d30", 11, 29);
        dueSpread("sw2h1s1;fd10;fc1d49", 11, 48);
        dueSpread("sw2h1s1;fd9;fc1d49", 11, 47);
        dueSpread("sw2h1s2;fd10;fc1d19", 10, 19);
        dueSpread("sw2h1s2;fd10;fc1d20", 11, 19);
        dueSpread("sw2h1s9;fd10;fc1d12", 10, 12);
        dueSpread("sw2h1s9;fd10;fc1d13", 11, 12);
        dueSpread("sw2h1s9;fd0;fc1d49", 22, 27);
        dueSpread("sw2h1s9;fd49;fc1d0", 27, 22);
        dueSpread("sw1h2s9;fd49;fc1d0", 27, 22);
        // Each one cut, then together: twice 19 is nothing, twice 20 is 2.
        dueSpread("sw3h1s1;fd29;fc1d10;fc2d29", 29, 10, 29);
        dueSpread("sw3h1s1;fd30;fc1d10;fc2d30", 29, 12, 29);
        dueSpread("sw3h1s1;fd0;fc1d19;fc2d0", 0, 19, 0);
        dueSpread("sw3h1s1;fd0;fc1d20;fc2d0", 1, 18, 1);
        dueSpread("sw3h1s1;fd0;fc1d20;fc2d39", 1, 19, 39);
        dueSpread("sw3h1s1;fd0;fc1d20;fc2d40", 1, 20, 39);
        Due.sentence("from each FOOD beside it: no CELL, no FOOD, another row's end are not beside");
        dueSpread("sw3h1s9;fd0;fc2d40", 0, 0, 40);
        dueSpread("sw2h2s9;fc1d40;fc2d0", 0, 40, 0, 0);
        dueSpread("sw2h2s9;fd40;fc3d0", 40, 0, 0, 0);
        Due.sentence("DEGREES are more by it (0 at least)");
        dueSpread("sw3h3s9;fc4d40;fc1d0;fc3d0;fc5d0;fc7d0", 0, 18, 0, 18, 0, 18, 0, 18);
        dueSpread("sw3h3s5;fc4d40;fc1d0;fc3d0;fc5d0;fc7d0", 0, 10, 0, 10, 0, 10, 0, 10);
        dueSpread("sw3h3s4;fc4d40;fc1d0;fc3d0;fc5d0;fc7d0", 0, 8, 0, 8, 8, 8, 0, 8);
        Due.sentence("(1) ahead of (2): it SPREADS by DEGREES that it got in this TEN");
        ColdMiddle x = Due.lunch("sw2h1s9;fd10;fc1d10;mc1s0");
        x.cook(1, 4);
        Due.due("DEGREES of 0: 17 less 4 * 9 / 20", Due.degrees(x, 0), 16);
        Due.due("DEGREES of 1: 13 and 1 more", Due.degrees(x, 1), 14);
    }

    private static void dueMelt(String lunch, int ice, int degrees) {
        ColdMiddle x = Due.lunch(lunch);
        x.cook(1, 0);
        Due.due("ICE of 0 of " + lunch, Due.ice(x, 0), ice);
        Due.due("DEGREES of 0 of " + lunch, Due.degrees(x, 0), degrees);
    }

    private static void spreadsOnIce() {
        Due.sentence("with ICE: if it is above 0, ICE is so much less (0 at least), else nothing");
        dueMelt("sw2h1s1;fi9d10;fc1d29", 9, 10);
        dueMelt("sw2h1s1;fi9d10;fc1d30", 8, 10);
        dueMelt("sw2h1s1;fi1d10;fc1d30", 0, 10);
        dueMelt("sw2h1s9;fi1d10;fc1d49", 0, 10);
        dueMelt("sw2h1s9;fi17d10;fc1d49", 0, 10);
        dueMelt("sw2h1s9;fi18d10;fc1d49", 1, 10);
        dueMelt("sw2h1s9;fi9d40;fc1d0", 9, 40);
        dueMelt("sw2h1s9;fi9d10;fc1d10", 9, 10);
        // Together above 0, or not.
        dueMelt("sw2h2s1;fi9d20;fc1d40;fc2d0", 9, 20);
        dueMelt("sw2h2s1;fi9d20;fc1d40;fc2d1", 8, 20);
        dueMelt("sw2h2s2;fi9d20;fc1d29;fc2d10", 9, 20);
        Due.sentence("(2) with ICE or without as it is behind (1)");
        ColdMiddle x = Due.lunch("sw2h1s9;fi1d10;fc1d49", "y:2");
        x.cook(1, 1);
        Due.due("ICE", Due.ice(x, 0), 0);
        Due.due("DEGREES: 41 * 9 / 20 more", Due.degrees(x, 0), 28);
    }

    // ---- (3) it BURSTS; SAFE

    private static void bursts() {
        Due.sentence("FOOD with DEGREES at which it BURSTS, or more: its DEGREES are 10 less than that number then");
        for (int gain = 0; gain <= 60; gain++) {
            ColdMiddle x = Due.lunch("sw1h1b50;fd40", "y:" + gain);
            x.cook(1, 1);
            Due.due("DEGREES by " + gain, Due.degrees(x, 0), gain < 10 ? 40 + gain : 40);
            Due.due("BURST by " + gain, Due.spot(x, 0, 5), gain < 10 ? 0 : 1);
            Due.due("log(0,2) by " + gain, x.log(0, 2), gain < 10 ? 0 : 1);
        }
        ColdMiddle most = Due.lunch("sw1h1b99;fd49", "y:49");
        most.cook(1, 1);
        Due.due("98 of 99", Due.degrees(most, 0), 98);
        ColdMiddle over = Due.lunch("sw1h1b99;fd49", "y:50");
        over.cook(1, 1);
        Due.due("99 of 99", Due.degrees(over, 0), 89);
        Due.sentence("it BURSTS (it has BURST, that stays)");
        ColdMiddle x = Due.lunch("sw2h1b50s0;fd49;fc1d0");
        x.cook(1, 1);
        for (int i = 0; i < 3; i++) {
            Due.due("BURST", Due.spot(x, 0, 5), 1);
            Due.due("count(9)", x.count(9), 1);
            x.stir();
        }
        x.cook(1, 0);
        Due.due("BURST, moved", x.move(0, 1), NONE);
        Due.due("BURST of the other", Due.spot(x, 1, 5), 0);
        Due.sentence("(2) ahead of (3): what SPREADS keeps it off, or brings it");
        ColdMiddle off = Due.lunch("sw2h1b50s9;fd49;fc1d40", "y:d/49");
        off.cook(1, 1);
        Due.due("50 less 4", Due.degrees(off, 0), 46);
        Due.due("count(9)", off.count(9), 0);
        ColdMiddle on = Due.lunch("sw3h3b50s9;fc4d40;fc1d49;fc3d49;fc5d49;fc7d49");
        on.cook(1, 0);
        Due.due("40 and four times 4: it BURSTS", Due.degrees(on, 4), 40);
        Due.due("BURST", Due.spot(on, 4, 5), 1);
        Due.due("one of four", Due.degrees(on, 1), 45);
        Due.due("count(9)", on.count(9), 1);
        Due.due("log(0,2), by POWER 0", on.log(0, 2), 1);
    }

    private static void safe() {
        Due.sentence("SAFE: no FOOD has ICE, all has so many DEGREES or more");
        Due.due("30 of 30", Due.lunch("sw2h1a30;fd30;fc1d30").count(8), 1);
        Due.due("29 of 30", Due.lunch("sw2h1a30;fd30;fc1d29").count(8), 0);
        Due.due("29 of 30, the first", Due.lunch("sw2h1a30;fd29;fc1d30").count(8), 0);
        Due.due("ICE 1", Due.lunch("sw2h1a30;fd49;fc1d49i1").count(8), 0);
        Due.due("49 of 49", Due.lunch("sw1h1a49;fd49").count(8), 1);
        Due.due("49 of 50", Due.lunch("sw1h1a50;fd49").count(8), 0);
        ColdMiddle x = Due.lunch("sw1h1a90b99;fd30", "y:59+d/89");
        x.cook(1, 1);
        Due.due("89 of 90", x.count(8), 0);
        x.cook(1, 0);
        Due.due("89 of 90, standing", x.count(8), 0);
        ColdMiddle y = Due.lunch("sw1h1a90b99;fd30", "y:60");
        y.cook(1, 1);
        Due.due("90 of 90", y.count(8), 1);
        Due.sentence("EATEN FOOD is no more: it does not count for SAFE");
        ColdMiddle z = Due.lunch("sw2h1a30;fd30;fc1d29");
        z.eat(1);
        Due.due("count(8)", z.count(8), 1);
    }

    // ---- by hand

    private static void cooksOneToSixty() {
        Due.sentence("cook: TENS (1 .. 60) at a POWER (0 .. full): the TEN; out of bounds (STATUS 1)");
        for (int full = 1; full <= 9; full++) {
            ColdMiddle x = Due.lunch("sw1h1p" + full + ";f");
            Due.due("cook(1,0)", x.cook(1, 0), 1);
            Due.due("cook(1,full)", x.cook(1, full), 2);
            Due.due("cook(1,full + 1)", x.cook(1, full + 1), NONE);
            Due.due("cook(1,-1)", x.cook(1, -1), NONE);
            Due.dueStatus("two refused", x, "0 2 0 0");
        }
        ColdMiddle x = Due.lunch("sw1h1;f");
        Due.due("cook(0,0)", x.cook(0, 0), NONE);
        Due.due("cook(61,0)", x.cook(61, 0), NONE);
        Due.due("cook(-1,0)", x.cook(-1, 0), NONE);
        for (int far : Due.FAR) {
            Due.due("cook(" + far + ",0)", x.cook(far, 0), NONE);
            Due.due("cook(1," + far + ")", x.cook(1, far), NONE);
            Due.due("cook(" + far + "," + far + ")", x.cook(far, far), NONE);
        }
        Due.dueStatus("fifteen refused", x, "0 15 0 0");
        Due.due("count(6)", x.count(6), 0);
        Due.due("count(15)", x.count(15), 0);
        Due.due("count(16)", x.count(16), 0);
        Due.due("cook(60,4)", x.cook(60, 4), 60);
        Due.due("cook(1,4)", x.cook(1, 4), 61);
        Due.dueStatus("none more", x, "0 15 0 0");
    }

    private static ColdMiddle at(int ten) {
        ColdMiddle x = Due.lunch("sw1h1;f");
        Due.stand(x, ten);
        Due.due("count(6)", x.count(6), ten);
        return x;
    }

    private static void lastTen() {
        Due.sentence("the TEN is one later (9,999 at most: none goes by then); cook: NONE: beyond 9,999 (3)");
        for (int n = 1; n <= 60; n += 59) {
            ColdMiddle x = at(9999 - n);
            Due.due("cook(" + (n + 1) + ",0) beyond it", x.cook(n + 1, 0), NONE);
            Due.dueStatus("it", x, n == 60 ? "0 1 0 0" : "0 0 0 1");
            Due.due("count(6), none of it went by", x.count(6), 9999 - n);
            Due.due("cook(" + n + ",4) up to it", x.cook(n, 4), 9999);
            Due.due("count(6)", x.count(6), 9999);
            Due.due("cook(1,0)", x.cook(1, 0), NONE);
            Due.due("cook(60,4)", x.cook(60, 4), NONE);
            Due.dueStatus("two more", x, n == 60 ? "0 1 0 2" : "0 0 0 3");
            Due.due("count(6)", x.count(6), 9999);
            Due.due("log(0,0)", x.log(0, 0), 4);
        }
        ColdMiddle x = at(9940);
        Due.due("cook(60,0) at 9,940", x.cook(60, 0), NONE);
        Due.due("habits(60,0) at 9,940", x.habits(60, 0), NONE);
        Due.dueStatus("both", x, "0 0 0 1");
        Due.due("habits(59,0) at 9,940", x.habits(59, 0), 9999);
        Due.sentence("at 9,999 all but TENS goes on");
        Due.due("stir()", x.stir(), Due.degrees(x, 0));
        Due.due("turn(true)", x.turn(true), true);
        Due.due("image()", x.image(), 9999);
        Due.due("habits(1,0)", x.habits(1, 0), NONE);
        Due.due("cook(0,0), out of bounds first", x.cook(0, 0), NONE);
        Due.due("cook(61,0), out of bounds first", x.cook(61, 0), NONE);
        Due.due("cook(1,5), out of bounds first", x.cook(1, 5), NONE);
        Due.dueStatus("three out of bounds", x, "0 3 0 1");
        Due.due("undo()", x.undo(), 39);
        Due.due("undo()", x.undo(), 38);
        Due.due("undo() of a TEN", x.undo(), 37);
        Due.due("count(6)", x.count(6), 9998);
        Due.due("cook(2,0)", x.cook(2, 0), NONE);
        Due.due("habits(2,0)", x.habits(2, 0), NONE);
        Due.due("habits(1,0)", x.habits(1, 0), 9999);
        Due.due("back()", x.back(), 9999);
        Due.due("cook(1,0)", x.cook(1, 0), NONE);
        Due.dueStatus("the last", x, "0 3 0 3");
    }

    private static void stirred() {
        Due.sentence("STIRRED: all FOOD has the mean of ICE and of DEGREES of all (cut)");
        ColdMiddle x = Due.lunch("sw3h1a30;fi1d10;fc1d11;fc2i1d11");
        Due.due("stir()", x.stir(), 10);
        for (int cell = 0; cell < 3; cell++) {
            Due.due("ICE 2 by 3", Due.ice(x, cell), 0);
            Due.due("DEGREES 32 by 3", Due.degrees(x, cell), 10);
            Due.due("THICK", Due.thick(x, cell), 3);
        }
        Due.due("stir() again is not refused", x.stir(), 10);
        Due.due("count(16)", x.count(16), 2);
        Due.dueStatus("both", x, "0 0 0 0");
        ColdMiddle y = Due.lunch("sw3h1;fi99d49;fc2i98d48");
        Due.due("stir()", y.stir(), 48);
        Due.due("ICE", Due.ice(y, 0), 98);
        Due.due("no FOOD", Due.thick(y, 1), 0);
        Due.due("no ICE without FOOD", Due.ice(y, 1), 0);
        Due.due("no DEGREES without FOOD", Due.degrees(y, 1), 0);
        ColdMiddle one = Due.lunch("sw1h1;fi7d9");
        Due.due("stir() of one FOOD", one.stir(), 9);
        Due.due("ICE of one", Due.ice(one, 0), 7);
        Due.due("undo()", one.undo(), 0);
        ColdMiddle nought = Due.lunch("sw2h1;fd0;fc1d1");
        Due.due("stir()", nought.stir(), 0);
        StringBuilder twelve = new StringBuilder("sw5h5");
        for (int cell = 0; cell < 12; cell++) {
            twelve.append(";fc").append(cell * 2).append("d").append(cell == 0 ? 11 : 12).append("i1");
        }
        ColdMiddle many = Due.lunch(twelve.toString());
        Due.due("stir() of twelve: 143 by 12", many.stir(), 11);
        Due.due("ICE of all", many.count(10), 12);
    }

    private static void turned() {
        Due.sentence("turn: It TURNS, or not. False: no LUNCH (STATUS 0), it is so (2)");
        ColdMiddle x = new ColdMiddle();
        Due.due("turn(true) without", x.turn(true), false);
        Due.due("turn(false) without, so it is, too", x.turn(false), false);
        Due.dueStatus("both", x, "2 0 0 0");
        Due.due("count(7)", x.count(7), 0);
        Due.write(x, "f");
        x.text(0);
        Due.due("turn(false)", x.turn(false), false);
        Due.dueStatus("it", x, "2 0 1 0");
        Due.due("count(16), no ACT", x.count(16), 0);
        Due.due("turn(true)", x.turn(true), true);
        Due.due("turn(true)", x.turn(true), false);
        Due.due("count(7)", x.count(7), 1);
        Due.due("turn(false)", x.turn(false), true);
        Due.due("count(7)", x.count(7), 0);
        Due.due("count(16)", x.count(16), 2);
        Due.dueStatus("all", x, "2 0 2 0");
    }

    private static void moved() {
        Due.sentence("move: NONE: no such CELL, no FOOD there (STATUS 0), FOOD in the other one (2)");
        ColdMiddle x = Due.lunch("sw2h2;f;fc1");
        Due.due("move(4,2), no such CELL", x.move(4, 2), NONE);
        Due.due("move(-1,2), no such CELL", x.move(-1, 2), NONE);
        Due.due("move(0,4), no such other one", x.move(0, 4), NONE);
        Due.due("move(0,-1), no such other one", x.move(0, -1), NONE);
        Due.due("move(2,3), no FOOD there", x.move(2, 3), NONE);
        Due.due("move(2,2), no FOOD there", x.move(2, 2), NONE);
        Due.dueStatus("six", x, "6 0 0 0");
        Due.due("move(2,1), no FOOD there, FOOD in the other", x.move(2, 1), NONE);
        Due.due("move(4,1), no such CELL, FOOD in the other", x.move(4, 1), NONE);
        Due.due("move(-1,-1)", x.move(-1, -1), NONE);
        Due.dueStatus("of several the first", x, "9 0 0 0");
        Due.due("move(0,1), FOOD in the other", x.move(0, 1), NONE);
        Due.due("move(0,0), FOOD in the other", x.move(0, 0), NONE);
        Due.dueStatus("two", x, "9 0 2 0");
        for (int far : Due.FAR) {
            Due.due("move(" + far + ",2)", x.move(far, 2), NONE);
            Due.due("move(0," + far + ")", x.move(0, far), NONE);
        }
        Due.dueStatus("far ones", x, "17 0 2 0");
        Due.due("count(16), no ACT", x.count(16), 0);
        Due.due("move(0,3), the last CELL", x.move(0, 3), 3);
        Due.due("move(1,0)", x.move(1, 0), 4);
        Due.due("move(0,2)", x.move(0, 2), 3);
        Due.due("count(16)", x.count(16), 3);
        Due.sentence("MOVED: EDGES there");
        ColdMiddle y = Due.lunch("sw3h3;f;fc1;fc3;fc5;fc7");
        Due.due("move(0,4), FOOD on all sides", y.move(0, 4), 0);
        Due.due("move(4,8)", y.move(4, 8), 2);
        Due.due("move(1,0), beside where it was", y.move(1, 0), 3);
        Due.sentence("FOOD is MOVED to a CELL without: the only one, too");
        ColdMiddle one = Due.lunch("fc3t9i8d7;mc0s0");
        Due.due("move(3,0)", one.move(3, 0), 4);
        Due.due("THICK", Due.thick(one, 0), 9);
        Due.due("ICE", Due.ice(one, 0), 8);
        Due.due("DEGREES", Due.degrees(one, 0), 7);
        Due.due("SHARE stays with the CELL", Due.spot(one, 0, 0), 0);
        for (int what = 1; what <= 5; what++) {
            Due.due("spot(3," + what + ")", Due.spot(one, 3, what), 0);
        }
    }

    private static void eaten() {
        Due.sentence("what it tells: 0 it has ICE; else 3 it had BURST; else 1 it has fewer DEGREES than SAFE, 2 it has not");
        ColdMiddle x = Due.lunch("sw5h1b50a40s0;fi1d48;fc1d49;fc2d38;fc3d39;fc4", "y:1");
        x.cook(1, 1);
        Due.due("eat(0), ICE 1", x.eat(0), 0);
        Due.due("eat(1), 40 and BURST", x.eat(1), 3);
        Due.due("eat(2), 39 of 40", x.eat(2), 1);
        Due.due("eat(3), 40 of 40", x.eat(3), 2);
        ColdMiddle low = Due.lunch("sw2h1b50a60s0;fd49;fc1", "y:d/49");
        low.cook(1, 1);
        Due.due("eat(0), 40 of 60 and BURST", low.eat(0), 3);
        ColdMiddle iced = Due.lunch("sw2h1b50a30s0;fd49;fc1i99", "y:d/49");
        iced.cook(1, 1);
        iced.stir();
        Due.due("BURST", Due.spot(iced, 0, 5), 1);
        Due.due("ICE", Due.ice(iced, 0), 49);
        Due.due("eat(0), ICE ahead of BURST", iced.eat(0), 0);
        Due.due("eat(1), the last", iced.eat(1), NONE);
        ColdMiddle cold = Due.lunch("sw2h1a30;fd30i9;fc1d0i1");
        Due.due("eat(0), ICE and SAFE DEGREES", cold.eat(0), 0);
        ColdMiddle warm = Due.lunch("sw2h1a30;fd30;fc1d0");
        Due.due("eat(0), 30 of 30", warm.eat(0), 2);
        for (int what = 1; what <= 5; what++) {
            Due.due("FOOD is no more: spot(0," + what + ")", Due.spot(warm, 0, what), 0);
        }
        Due.due("EDGES of the other", Due.spot(warm, 1, 4), 4);
    }

    private static void lastFood() {
        Due.sentence("eat: NONE: no such CELL, no FOOD there (STATUS 0), the last one (3)");
        ColdMiddle x = Due.lunch("sw2h2;f;fc3");
        Due.due("eat(4), no such CELL", x.eat(4), NONE);
        Due.due("eat(-1), no such CELL", x.eat(-1), NONE);
        Due.due("eat(1), no FOOD there", x.eat(1), NONE);
        for (int far : Due.FAR) {
            Due.due("eat(" + far + ")", x.eat(far), NONE);
        }
        Due.dueStatus("seven", x, "7 0 0 0");
        Due.due("eat(3), one of two", x.eat(3), 1);
        Due.due("eat(3) again", x.eat(3), NONE);
        Due.due("eat(1), no FOOD there, and one is left", x.eat(1), NONE);
        Due.due("eat(9), no such CELL, and one is left", x.eat(9), NONE);
        Due.dueStatus("of several the first", x, "10 0 0 0");
        Due.due("eat(0), the last one", x.eat(0), NONE);
        Due.dueStatus("it", x, "10 0 0 1");
        Due.due("count(1)", x.count(1), 1);
        Due.due("count(16)", x.count(16), 1);
        Due.due("undo()", x.undo(), 0);
        Due.due("eat(0), two again", x.eat(0), 1);
        Due.due("eat(3), the last one", x.eat(3), NONE);
        Due.due("move(3,0)", x.move(3, 0), 4);
        Due.due("eat(0), the last one", x.eat(0), NONE);
        Due.dueStatus("three times", x, "10 0 0 3");
        ColdMiddle one = Due.lunch("f");
        Due.due("eat(0), the only one", one.eat(0), NONE);
        Due.dueStatus("it", one, "0 0 0 1");
        ColdMiddle twelve = Due.lunch("f;fc1;fc2;fc3;fc4;fc5;fc6;fc7;fc8;fc9;fc10;fc11");
        for (int cell = 0; cell < 11; cell++) {
            Due.due("eat(" + cell + ")", twelve.eat(cell), 1);
            Due.due("count(1)", twelve.count(1), 11 - cell);
        }
        Due.due("eat(11)", twelve.eat(11), NONE);
    }

    // ---- ACTS, LOG, STATUS

    private static void fortyActs() {
        Due.sentence("the latest 40 can be UNDONE one by one; NONE: none");
        ColdMiddle x = Due.lunch("sw2h1;f");
        Due.due("undo() of none", x.undo(), NONE);
        for (int act = 1; act <= 41; act++) {
            Due.due("turn", x.turn(act % 2 == 1), true);
            Due.due("count(16)", x.count(16), Math.min(40, act));
        }
        for (int left = 39; left >= 0; left--) {
            Due.due("undo()", x.undo(), left);
            Due.due("count(7)", x.count(7), left % 2 == 0 ? 1 : 0);
        }
        Due.due("undo() of none", x.undo(), NONE);
        Due.due("count(7), the first of 41 stays", x.count(7), 1);
        ColdMiddle exact = Due.lunch("sw1h1;f");
        exact.cook(39, 0);
        Due.due("count(16) of 39", exact.count(16), 39);
        exact.cook(1, 0);
        Due.due("count(16) of 40", exact.count(16), 40);
        Due.due("undo()", exact.undo(), 39);
        exact.cook(2, 0);
        Due.due("count(16) of 41", exact.count(16), 40);
        for (int left = 39; left >= 0; left--) {
            Due.due("undo()", exact.undo(), left);
        }
        Due.due("count(6)", exact.count(6), 1);
        ColdMiddle sixty = Due.lunch("sw1h1;f");
        sixty.cook(60, 0);
        for (int left = 39; left >= 0; left--) {
            Due.due("undo() of sixty", sixty.undo(), left);
            Due.due("count(6)", sixty.count(6), 20 + left);
        }
        Due.due("undo()", sixty.undo(), NONE);
        Due.due("count(6)", sixty.count(6), 20);
        sixty.turn(true);
        Due.due("count(16), an ACT behind those", sixty.count(16), 1);
        Due.due("undo()", sixty.undo(), 0);
        Due.due("undo()", sixty.undo(), NONE);
        Due.due("undo() without", new ColdMiddle().undo(), NONE);
    }

    private static void eachIsOneAct() {
        Due.sentence("All these (each TEN) are ACTS");
        ColdMiddle x = Due.lunch("sw2h2b50s3;fi9d1;fc1d49", "y:3");
        String[] was = new String[8];
        int act = 0;
        was[act++] = all(x);
        x.stir();
        was[act++] = all(x);
        x.turn(true);
        was[act++] = all(x);
        x.move(0, 2);
        was[act++] = all(x);
        x.cook(2, 4);
        x.undo();
        was[act++] = all(x);
        x.cook(1, 4);
        was[act++] = all(x);
        x.habits(1, 3);
        was[act++] = all(x);
        x.eat(2);
        Due.due("count(16)", x.count(16), act);
        Due.sentence("The latest ACT is UNDONE (LOG, too)");
        while (act > 0) {
            act--;
            Due.due("undo()", x.undo(), act);
            Due.due("all as it was ahead of the ACT " + act, all(x), was[act]);
        }
        Due.sentence("what is no ACT: text, law, stirs, tell, set, image, feed, end");
        Due.write(x, "y:1");
        x.text(1);
        x.law(1);
        x.stirs(4);
        x.tell(0, true);
        x.set(0, 1, true);
        x.image();
        Due.due("count(16)", x.count(16), 0);
        x.turn(true);
        x.undo();
        Due.due("count(3)", x.count(3), 2);
        Due.due("count(5)", x.count(5), 1);
        Due.due("count(12)", x.count(12), 4);
        Due.due("count(13)", x.count(13), 1);
        Due.due("count(14)", x.count(14), 1);
        Due.due("back()", x.back(), 0);
    }

    private static void fortyBehindAny() {
        Due.sentence("ACTS: the latest 40 can be UNDONE one by one, however many were done and UNDONE ahead of them");
        for (int done = 0; done <= 85; done++) {
            ColdMiddle x = Due.lunch("sw1h1p9;f");
            for (int i = 1; i <= done; i++) {
                x.cook(1, i % 10);
            }
            int kept = Math.min(40, done);
            int some = kept / 3;
            for (int i = 1; i <= some; i++) {
                Due.due("undo() of " + done, x.undo(), kept - i);
            }
            for (int i = 0; i < 7; i++) {
                x.turn(i % 2 == 0);
            }
            int now = Math.min(40, kept - some + 7);
            Due.due("count(16) behind seven more", x.count(16), now);
            for (int left = now - 1; left >= 0; left--) {
                Due.due("undo()", x.undo(), left);
            }
            int ten = done - some - (now - 7);
            Due.due("undo() of none", x.undo(), NONE);
            Due.due("count(6)", x.count(6), ten);
            Due.due("count(7)", x.count(7), 0);
            Due.due("count(15)", x.count(15), Math.min(60, ten));
            Due.due("log(0,0)", x.log(0, 0), ten == 0 ? NONE : ten % 10);
            int last = Math.min(60, ten) - 1;
            Due.due("log(last,0)", x.log(last, 0), ten == 0 ? NONE : (ten - last) % 10);
        }
        Due.sentence("An object is used for at most 512 calls: the last answers as the first");
        ColdMiddle x = Due.lunch("f");
        for (int i = 3; i < 512; i++) {
            Due.due("turn, the call " + i, x.turn(i % 2 == 1), true);
        }
        Due.due("undo(), the 512th", x.undo(), 39);
        ColdMiddle texts = new ColdMiddle();
        for (int i = 0; i < 256; i++) {
            texts.feed(0x66000000 + (0x633000 + (i % 10 << 8)), 0, 0, 0, 0);
            Due.due("text(0), the call " + (2 * i + 2), texts.text(0), 1);
        }
    }

    private static String all(ColdMiddle x) {
        StringBuilder s = new StringBuilder();
        for (int cell = 0; cell < x.count(0); cell++) {
            for (int what = 0; what <= 5; what++) {
                s.append(Due.spot(x, cell, what)).append(' ');
            }
        }
        s.append(x.count(6)).append(' ').append(x.count(7)).append(' ').append(x.count(15));
        for (int i = 0; i < 3; i++) {
            for (int what = 0; what < 3; what++) {
                s.append(' ').append(x.log(i, what));
            }
        }
        return s.toString();
    }

    private static void sixtyInTheLog() {
        Due.sentence("LOG: the latest 60 TENS");
        ColdMiddle x = Due.lunch("sw1h1p9;f");
        Due.due("log(0,0) of none", x.log(0, 0), NONE);
        Due.due("count(15)", x.count(15), 0);
        for (int ten = 1; ten <= 130; ten++) {
            x.cook(1, ten % 10);
            int length = Math.min(60, ten);
            if (ten % 7 == 0 || ten >= 57 && ten <= 63 || ten >= 118 && ten <= 123) {
                Due.due("count(15) behind " + ten, x.count(15), length);
                Due.due("log(0,0) behind " + ten, x.log(0, 0), ten % 10);
                Due.due("log(last,0) behind " + ten, x.log(length - 1, 0), (ten - length + 1) % 10);
                Due.due("log(last + 1,0) behind " + ten, x.log(length, 0), NONE);
            }
        }
        for (int i = 0; i < 60; i++) {
            Due.due("log(" + i + ",0)", x.log(i, 0), (130 - i) % 10);
        }
        for (int i : new int[] {-1, 60, 61, 99, 100, Integer.MIN_VALUE, Integer.MAX_VALUE}) {
            for (int what = 0; what < 3; what++) {
                Due.due("log(" + i + "," + what + ")", x.log(i, what), NONE);
            }
        }
        for (int what : new int[] {-1, 3, Integer.MIN_VALUE, Integer.MAX_VALUE}) {
            Due.due("log(0," + what + ")", x.log(0, what), NONE);
            Due.due("log(59," + what + ")", x.log(59, what), NONE);
        }
        Due.sentence("UNDONE (LOG, too): its rows that had gone are there again");
        for (int i = 0; i < 40; i++) {
            x.undo();
        }
        Due.due("count(15)", x.count(15), 60);
        for (int i = 0; i < 60; i += 59) {
            Due.due("log(" + i + ",0)", x.log(i, 0), (90 - i) % 10);
        }
        Due.due("log(60,0)", x.log(60, 0), NONE);
        x.cook(1, 5);
        Due.due("log(0,0)", x.log(0, 0), 5);
        Due.due("log(1,0)", x.log(1, 0), 0);
        Due.due("log(59,0)", x.log(59, 0), 2);
        Due.due("log without", new ColdMiddle().log(0, 0), NONE);
    }

    private static void logOfATen() {
        Due.sentence("LOG: POWER, the least DEGREES, how many BURST in it (also once more)");
        ColdMiddle x = Due.lunch("sw3h1b50s0;fd49;fc1d40;fc2d39", "y:10");
        x.cook(3, 4);
        // 59, 50, 49: two BURST; 50, 50, 59: three; 50 each: three.
        int[] bursts = {3, 3, 2};
        int[] least = {40, 40, 40};
        for (int i = 0; i < 3; i++) {
            Due.due("log(" + i + ",0)", x.log(i, 0), 4);
            Due.due("log(" + i + ",1)", x.log(i, 1), least[i]);
            Due.due("log(" + i + ",2)", x.log(i, 2), bursts[i]);
        }
        Due.due("log(3,0)", x.log(3, 0), NONE);
        Due.due("count(9), how many have BURST", x.count(9), 3);
        ColdMiddle y = Due.lunch("sw3h1s0;fd0i9;fc1d1", "y:0");
        y.cook(1, 0);
        Due.due("log(0,1), least with ICE, too", y.log(0, 1), 0);
        y.stir();
        y.cook(1, 1);
        Due.due("log(0,1), one FOOD's CELL is empty", y.log(0, 1), 0);
        y.eat(0);
        y.cook(1, 0);
        Due.due("log(0,1)", y.log(0, 1), Due.degrees(y, 1));
        Due.due("log(0,0)", y.log(0, 0), 0);
        StringBuilder twelve = new StringBuilder("sw4h3b50s0");
        for (int cell = 0; cell < 12; cell++) {
            twelve.append(";fc").append(cell).append("d49");
        }
        ColdMiddle many = Due.lunch(twelve.toString(), "y:1");
        many.cook(1, 1);
        Due.due("log(0,2) of twelve", many.log(0, 2), 12);
        Due.due("count(9) of twelve", many.count(9), 12);
    }

    private static void statusOfSeveral() {
        Due.sentence("STATUS: there was no such one (0), out of bounds (1), it is so already, FOOD is there (2), the last "
                + "one, beyond the last TEN (3); of several the first");
        ColdMiddle x = new ColdMiddle();
        Due.due("cook(0,-1): 0 and 1", x.cook(0, -1), NONE);
        Due.due("cook(61,99): 0 and 1", x.cook(61, 99), NONE);
        Due.due("turn(false): 0 and 2", x.turn(false), false);
        Due.due("move(0,0)", x.move(0, 0), NONE);
        Due.due("eat(0)", x.eat(0), NONE);
        Due.due("stir()", x.stir(), NONE);
        Due.dueStatus("six", x, "6 0 0 0");
        ColdMiddle last = at(9999);
        Due.due("cook(0,0): 1 and 3", last.cook(0, 0), NONE);
        Due.due("cook(61,0): 1 and 3", last.cook(61, 0), NONE);
        Due.due("cook(1,9): 1 and 3", last.cook(1, 9), NONE);
        Due.dueStatus("three", last, "0 3 0 0");
        Due.due("cook(1,4): 3", last.cook(1, 4), NONE);
        Due.due("eat(0): 3", last.eat(0), NONE);
        Due.dueStatus("five", last, "0 3 0 2");
        Due.sentence("status: NONE: no such what");
        for (int what : new int[] {-1, 4, 5, Integer.MIN_VALUE, Integer.MAX_VALUE}) {
            Due.due("status(" + what + ")", last.status(what), NONE);
            Due.due("status(" + what + ") of a new one", new ColdMiddle().status(what), NONE);
        }
        Due.dueStatus("a new object", new ColdMiddle(), "0 0 0 0");
        Due.sentence("STATUS: how many ACTS were refused: what is no ACT counts nothing");
        ColdMiddle y = Due.lunch("sw1h1;f");
        y.undo();
        y.back();
        y.stirs(10);
        y.stirs(0);
        y.habits(0, 0);
        y.habits(61, 0);
        y.law(4);
        y.text(2);
        y.end(9);
        y.tell(1, true);
        y.set(0, 100, true);
        y.span(9);
        y.heats(1, 61, 9);
        y.place(1, 0);
        y.turning(0);
        y.runs(0, 9);
        y.log(0, 0);
        Due.spot(y, 9, 9);
        Due.dueStatus("seventeen others", y, "0 0 0 0");
        Due.sentence("an ACT that is done counts nothing");
        y.cook(1, 1);
        y.stir();
        y.turn(true);
        Due.dueStatus("three done", y, "0 0 0 0");
    }

    private static void statusIsNotUndone() {
        Due.sentence("STATUS: not UNDONE; BACK leaves it, too");
        ColdMiddle x = Due.lunch("sw2h1;f");
        x.image();
        x.cook(1, 1);
        x.cook(0, 0);
        x.turn(false);
        x.eat(0);
        x.eat(1);
        Due.dueStatus("four", x, "1 1 1 1");
        x.undo();
        Due.dueStatus("undo()", x, "1 1 1 1");
        x.back();
        Due.dueStatus("back()", x, "1 1 1 1");
        x.undo();
        Due.dueStatus("undo() of none", x, "1 1 1 1");
    }

    // ---- HABITS and IMAGES

    private static long behind(long x) {
        return x * 6364136223846793005L + 1442695040888963407L;
    }

    private static int draw(long x, int k) {
        return (int) Long.remainderUnsigned(x >>> 33, k);
    }

    private static void stirsNoughtToNine() {
        Due.sentence("STIRS (0 .. 9; 0 at first); stirs: False: out of bounds, it is so");
        ColdMiddle x = new ColdMiddle();
        Due.due("count(12)", x.count(12), 0);
        Due.due("stirs(0), it is so", x.stirs(0), false);
        for (int v = 1; v <= 9; v++) {
            Due.due("stirs(" + v + ")", x.stirs(v), true);
            Due.due("stirs(" + v + ") again", x.stirs(v), false);
            Due.due("count(12)", x.count(12), v);
        }
        for (int v : new int[] {-1, 10, Integer.MIN_VALUE, Integer.MAX_VALUE}) {
            Due.due("stirs(" + v + ")", x.stirs(v), false);
            Due.due("count(12)", x.count(12), 9);
        }
        Due.due("stirs(0)", x.stirs(0), true);
        Due.due("count(12)", x.count(12), 0);
        Due.dueStatus("all these", x, "0 0 0 0");
    }

    private static void habitsOneToSixty() {
        Due.sentence("HABITS by a seed: n (1 .. 60) TENS; NONE: no LUNCH, out of bounds, beyond 9,999; No STATUS");
        ColdMiddle x = Due.lunch("sw1h1;f");
        for (int n : new int[] {0, -1, 61, Integer.MIN_VALUE, Integer.MAX_VALUE}) {
            Due.due("habits(" + n + ",1)", x.habits(n, 1), NONE);
        }
        Due.due("count(6)", x.count(6), 0);
        Due.due("count(16)", x.count(16), 0);
        Due.due("habits(1,1)", x.habits(1, 1), 1);
        Due.due("habits(60,1)", x.habits(60, 1), 61);
        Due.due("count(15)", x.count(15), 60);
        Due.due("count(16)", x.count(16), 40);
        ColdMiddle last = at(9998);
        Due.due("habits(2,1) at 9,998", last.habits(2, 1), NONE);
        Due.due("count(6)", last.count(6), 9998);
        Due.due("habits(1,1) at 9,998", last.habits(1, 1), 9999);
        Due.due("habits(1,1) at 9,999", last.habits(1, 1), NONE);
        Due.dueStatus("all these", last, "0 0 0 0");
        Due.dueStatus("all these", x, "0 0 0 0");
        ColdMiddle none = new ColdMiddle();
        Due.due("habits(1,1) without", none.habits(1, 1), NONE);
        Due.due("habits(0,1) without", none.habits(0, 1), NONE);
        Due.dueStatus("both", none, "0 0 0 0");
    }

    private static void habitsDraw() {
        Due.sentence("x becomes x times 6364136223846793005 and 1442695040888963407 (64 bits, going round); a draw of k: "
                + "(x shifted right by 33, without sign) modulo k");
        long[] seeds = {0, 1, -1, 7, Long.MIN_VALUE, Long.MAX_VALUE, Integer.MIN_VALUE, 1L << 33, -1L << 33,
            0x8000000100000000L};
        for (long seed : seeds) {
            for (int full = 1; full <= 9; full += 4) {
                ColdMiddle x = Due.lunch("sw1h1p" + full + ";f");
                x.habits(60, seed);
                long state = seed;
                for (int i = 59; i >= 0; i--) {
                    state = behind(behind(state));
                    Due.due("log(" + i + ",0) by " + seed, x.log(i, 0), draw(state, full + 1));
                }
            }
        }
        Due.sentence("a draw of full POWER and 1: the POWER of that TEN");
        boolean[] drawn = new boolean[10];
        ColdMiddle x = Due.lunch("sw1h1p9;f");
        x.habits(60, 5);
        for (int i = 0; i < 60; i++) {
            int power = x.log(i, 0);
            Due.due("a POWER within 0 .. 9", power >= 0 && power <= 9, true);
            drawn[Math.max(0, Math.min(9, power))] = true;
        }
        Due.due("0 is drawn", drawn[0], true);
        Due.due("full POWER is drawn", drawn[9], true);
        Due.sentence("ahead of each a draw of 10 below STIRS: STIRRED");
        for (int first = 0; first <= 9; first++) {
            long seed = 0;
            while (draw(behind(seed), 10) != first) {
                seed++;
            }
            for (int stirs = 0; stirs <= 9; stirs++) {
                ColdMiddle y = Due.lunch("sw2h1s0;fd0;fc1d40", "y:0");
                y.stirs(stirs);
                y.habits(1, seed);
                Due.due("DEGREES where " + first + " is drawn, STIRS " + stirs, Due.degrees(y, 0), first < stirs ? 20 : 0);
            }
        }
    }

    private static void habitsAreActs() {
        Due.sentence("Each TEN with what is ahead of it is one ACT");
        long seed = 0;
        while (draw(behind(seed), 10) != 0 || draw(behind(behind(behind(seed))), 10) != 0) {
            seed++;
        }
        ColdMiddle x = Due.lunch("sw2h1s0;fd0;fc1d40", "y:0");
        x.stirs(1);
        String was = all(x);
        Due.due("habits(2,seed), STIRRED twice", x.habits(2, seed), 2);
        Due.due("count(16)", x.count(16), 2);
        Due.due("undo()", x.undo(), 1);
        Due.due("DEGREES, STIRRED ahead of the first", Due.degrees(x, 0), 20);
        Due.due("count(6)", x.count(6), 1);
        Due.due("undo()", x.undo(), 0);
        Due.due("all as it was", all(x), was);
        Due.due("undo()", x.undo(), NONE);
    }

    private static void images() {
        Due.sentence("An IMAGE keeps FOOD, whether it TURNS, the TEN, the LOG; BACK: they are so again (no ACT can be UNDONE "
                + "then)");
        ColdMiddle x = Due.lunch("sw2h2b50s3;fi9d20;fc1d49;mc1s20", "y:2");
        Due.due("back(), no IMAGE", x.back(), NONE);
        x.turn(true);
        x.cook(3, 4);
        String was = all(x);
        Due.due("image()", x.image(), 3);
        Due.due("count(16), it is no ACT", x.count(16), 4);
        x.turn(false);
        x.cook(60, 1);
        x.cook(60, 2);
        x.move(0, 2);
        x.eat(1);
        x.stirs(3);
        x.tell(3, false);
        x.set(0, 7, true);
        x.law(NONE);
        Due.due("back()", x.back(), 3);
        Due.due("all as it was", all(x), was);
        Due.due("log(3,0)", x.log(3, 0), NONE);
        Due.due("count(16)", x.count(16), 0);
        Due.due("undo()", x.undo(), NONE);
        Due.due("count(5), not kept", x.count(5), NONE);
        Due.due("count(12), not kept", x.count(12), 3);
        Due.due("count(13), not kept", x.count(13), 1);
        Due.due("count(14), not kept", x.count(14), 1);
        Due.sentence("BACK once more; ACTS behind it can be UNDONE");
        x.cook(2, 1);
        Due.due("undo()", x.undo(), 1);
        Due.due("undo()", x.undo(), 0);
        Due.due("all as it was", all(x), was);
        x.cook(5, 4);
        Due.due("back()", x.back(), 3);
        Due.due("back()", x.back(), 3);
        Due.due("all as it was", all(x), was);
        Due.sentence("An IMAGE (instead of the one ahead)");
        x.cook(1, 0);
        String then = all(x);
        Due.due("image()", x.image(), 4);
        x.undo();
        Due.due("back() behind an UNDONE ACT", x.back(), 4);
        Due.due("all as it was then", all(x), then);
        Due.sentence("back: NONE: no IMAGE of this LUNCH");
        Due.write(x, "fx");
        Due.due("text(0), refused", x.text(0), NONE);
        Due.due("back()", x.back(), 4);
        x.end(1);
        Due.due("text(0)", x.text(0), 1);
        Due.due("back()", x.back(), NONE);
        x.cook(2, 0);
        Due.due("back()", x.back(), NONE);
        Due.due("count(6)", x.count(6), 2);
        Due.due("count(16), refused", x.count(16), 2);
    }

    private static void imagesAtTheirEnds() {
        Due.sentence("An IMAGE of TEN 0, of TEN 9,999, of a LOG of sixty");
        ColdMiddle x = Due.lunch("sw1h1;f");
        Due.due("image()", x.image(), 0);
        Due.due("back()", x.back(), 0);
        x.cook(60, 1);
        Due.due("back()", x.back(), 0);
        Due.due("count(15)", x.count(15), 0);
        Due.due("log(0,0)", x.log(0, 0), NONE);
        x.cook(60, 1);
        x.cook(60, 2);
        x.cook(5, 3);
        Due.due("image()", x.image(), 125);
        x.cook(60, 4);
        x.cook(60, 4);
        Due.due("back()", x.back(), 125);
        Due.due("count(15)", x.count(15), 60);
        Due.due("log(0,0)", x.log(0, 0), 3);
        Due.due("log(4,0)", x.log(4, 0), 3);
        Due.due("log(5,0)", x.log(5, 0), 2);
        Due.due("log(59,0)", x.log(59, 0), 2);
        Due.due("log(60,0)", x.log(60, 0), NONE);
        ColdMiddle last = at(9999);
        Due.due("image()", last.image(), 9999);
        last.undo();
        Due.due("back()", last.back(), 9999);
        Due.due("count(15)", last.count(15), 60);
    }

    private static void withoutALunch() {
        Due.sentence("No LUNCH: cook, stir, habits, image NONE; turn false; move, eat: no such CELL");
        ColdMiddle x = new ColdMiddle();
        Due.due("cook(1,0)", x.cook(1, 0), NONE);
        Due.due("stir()", x.stir(), NONE);
        Due.due("habits(1,0)", x.habits(1, 0), NONE);
        Due.due("image()", x.image(), NONE);
        Due.due("back()", x.back(), NONE);
        Due.due("turn(true)", x.turn(true), false);
        Due.due("move(0,1)", x.move(0, 1), NONE);
        Due.due("eat(0)", x.eat(0), NONE);
        Due.dueStatus("five ACTS", x, "5 0 0 0");
        Due.due("count(16)", x.count(16), 0);
        Due.write(x, "f");
        x.text(0);
        Due.due("back(), there was no IMAGE", x.back(), NONE);
        Due.dueStatus("a LUNCH then", x, "5 0 0 0");
    }

    private static void thinnest() {
        Due.sentence("t how THICK (1 .. 9): FOOD of 1 is FOOD as any other, of 9, too");
        for (int thick = 1; thick <= 9; thick += 8) {
            String t = "t" + thick;
            ColdMiddle x = Due.lunch("sw3h2b50a40s9;f" + t + "d39;fc1" + t + "i9d49;fc2" + t + "d20;fc4" + t + "d0", "y:0");
            Due.due("count(1)", x.count(1), 4);
            Due.due("count(8)", x.count(8), 0);
            Due.due("EDGES of 1", Due.spot(x, 1, 4), 1);
            Due.due("rim()", x.rim(), 1 + 4 + 16);
            Due.due("joined(0)", x.joined(0), 1 + 2 + 4 + 16);
            Due.due("bite()", x.bite(), 1);
            Due.due("hottest()", x.hottest(), 1);
            Due.due("mean()", x.mean(), 27);
            Due.due("runs(1,0): 43 and 22 behind it", x.runs(1, 0), 49 - 22 - 49);
            Due.due("set(4,1,true)", x.set(4, 1, true), 1);
            x.cook(1, 0);
            Due.due("DEGREES of 0: 10 * 9 / 20 more", Due.degrees(x, 0), 43);
            Due.due("DEGREES of 4: 49 * 9 / 20 more", Due.degrees(x, 4), 22);
            Due.due("log(0,1)", x.log(0, 1), 22);
            Due.due("stir(): 147 by 4", x.stir(), 36);
            for (int cell = 0; cell < 5; cell++) {
                Due.due("DEGREES of " + cell + " STIRRED", Due.degrees(x, cell), cell == 3 ? 0 : 36);
                Due.due("ICE of " + cell + " STIRRED", Due.ice(x, cell), cell == 3 ? 0 : 2);
            }
            Due.due("move(4,3)", x.move(4, 3), 3);
            Due.due("move(3,0), FOOD there", x.move(3, 0), NONE);
            Due.due("eat(3)", x.eat(3), 0);
            ColdMiddle burst = Due.lunch("sw2h1b50a30s0;f" + t + "d49;fc1" + t + "d30", "y:d/49");
            Due.due("count(8)", burst.count(8), 1);
            burst.cook(1, 1);
            Due.due("it BURSTS", Due.degrees(burst, 0), 40);
            Due.due("log(0,2)", burst.log(0, 2), 1);
            Due.due("turning(2)", Due.lunch("sw2h1s0;f" + t + "d0;ms0;mc1s4", "y:m").turning(2), 4);
            ColdMiddle apart = Due.lunch("sw3h1s0;f" + t + "d0;fc2" + t + "d1;ms0;mc2s4", "y:m");
            Due.due("runs(3,4)", apart.runs(3, 4), 12);
            ColdMiddle cold = Due.lunch("sw2h1a30;f" + t + "d29;fc1t3d30");
            Due.due("count(8), one is not", cold.count(8), 0);
            Due.due("span(0)", cold.span(0), NONE);
        }
    }
}

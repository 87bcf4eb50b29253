import java.util.ArrayList;
import java.util.List;

/**
 * What is refused changes nothing but STATUS; what is asked changes nothing. Of two objects with the same calls behind
 * them one has one call more; then both are asked all there is to ask, and all that they keep is taken out of them.
 */
public final class RefusedTest {
    private static final int NONE = Due.NONE;
    private static final int HIDDEN = Due.HIDDEN;
    private static final int LEAST_INT = Integer.MIN_VALUE;
    private static final int MOST_INT = Integer.MAX_VALUE;

    private interface Call {
        long of(ColdMiddle x);
    }

    /** A call, what it answers, and which number of STATUS it adds 1 to (NONE: none). */
    private static final class Refused {
        final String name;
        final Call call;
        final long want;
        final int reason;

        Refused(String name, long want, int reason, Call call) {
            this.name = name;
            this.want = want;
            this.reason = reason;
            this.call = call;
        }
    }

    private static final List<Refused> CALLS = new ArrayList<>();

    public static void main(String[] args) {
        onNothing();
        check("without a LUNCH", 0);
        onSome();
        check("with a LUNCH", 1);
        onFull();
        check("where all is full", 2);
        asks();
        check("what is asked", 1);
        check("what is asked", 2);
        Due.end();
    }

    private static void refused(String name, long want, int reason, Call call) {
        CALLS.add(new Refused(name, want, reason, call));
    }

    private static void none(String name, int reason, Call call) {
        refused(name, NONE, reason, call);
    }

    private static int is(boolean answer) {
        return answer ? 1 : 0;
    }

    // ---- what is refused

    /** By numbers out of bounds, and far out of them, whatever the object holds. */
    private static void outOfBounds(boolean hasLunch) {
        for (int far : new int[] {-1, LEAST_INT, MOST_INT}) {
            none("eat(" + far + ")", 0, x -> x.eat(far));
            none("move(" + far + ",1)", 0, x -> x.move(far, 1));
            none("move(0," + far + ")", 0, x -> x.move(0, far));
            none("cook(" + far + ",0)", hasLunch ? 1 : 0, x -> x.cook(far, 0));
            none("cook(1," + far + ")", hasLunch ? 1 : 0, x -> x.cook(1, far));
            none("habits(" + far + ",1)", NONE, x -> x.habits(far, 1));
            refused("stirs(" + far + ")", 0, NONE, x -> is(x.stirs(far)));
            refused("end(" + far + ")", 0, NONE, x -> is(x.end(far)));
            refused("fault(" + far + ")", -2, NONE, x -> x.fault(far));
            none("text(" + far + ")", NONE, x -> x.text(far));
            none("oven(" + far + ")", NONE, x -> x.oven(far));
            refused("spot(" + far + ",0)", Due.THROWN, NONE, x -> Due.spot(x, far, 0));
            refused("spot(0," + far + ")", Due.THROWN, NONE, x -> Due.spot(x, 0, far));
            none("dish(" + far + ",0)", NONE, x -> x.dish(far, 0));
            none("dish(0," + far + ")", NONE, x -> x.dish(0, far));
            none("status(" + far + ")", NONE, x -> x.status(far));
            none("log(" + far + ",0)", NONE, x -> x.log(far, 0));
            none("log(0," + far + ")", NONE, x -> x.log(0, far));
            none("span(" + far + ")", NONE, x -> x.span(far));
            none("soonest(" + far + ")", NONE, x -> x.soonest(far));
            none("heats(" + far + ",1,1)", NONE, x -> x.heats(far, 1, 1));
            none("heats(0," + far + ",1)", NONE, x -> x.heats(0, far, 1));
            none("heats(0,1," + far + ")", NONE, x -> x.heats(0, 1, far));
            none("place(" + far + ",1)", NONE, x -> x.place(far, 1));
            none("place(0," + far + ")", NONE, x -> x.place(0, far));
            refused("turning(" + far + ")", HIDDEN, NONE, x -> x.turning(far));
            refused("runs(" + far + ",1)", HIDDEN, NONE, x -> x.runs(far, 1));
            refused("runs(1," + far + ")", HIDDEN, NONE, x -> x.runs(1, far));
            none("tell(" + far + ",true)", NONE, x -> x.tell(far, true));
            none("weak(" + far + ",NONE)", NONE, x -> x.weak(far, NONE));
            none("best(" + far + ")", NONE, x -> x.best(far));
            none("once(" + far + ",0)", NONE, x -> x.once(far, 0));
            none("once(1," + far + ")", NONE, x -> x.once(1, far));
            none("order(" + far + ")", NONE, x -> x.order(far));
            none("together(" + far + ")", NONE, x -> x.together(far));
            none("odds(" + far + ",1)", NONE, x -> x.odds(far, 1));
            none("odds(1," + far + ")", NONE, x -> x.odds(1, far));
            none("set(" + far + ",1,true)", NONE, x -> x.set(far, 1, true));
            none("set(0," + far + ",true)", NONE, x -> x.set(0, far, true));
            none("joined(" + far + ")", NONE, x -> x.joined(far));
            none("next(" + far + ",1)", NONE, x -> x.next(far, 1));
            none("next(0," + far + ")", NONE, x -> x.next(0, far));
            refused("count(" + far + ")", HIDDEN, NONE, x -> x.count(far));
        }
        for (int far : new int[] {-2, LEAST_INT, MOST_INT}) {
            refused("law(" + far + ")", 0, NONE, x -> is(x.law(far)));
            none("weak(1," + far + ")", NONE, x -> x.weak(1, far));
            none("how(" + far + ")", NONE, x -> x.how(far));
        }
    }

    private static void onNothing() {
        CALLS.clear();
        outOfBounds(false);
        none("text(0)", NONE, x -> x.text(0));
        none("text(1)", NONE, x -> x.text(1));
        refused("end(1)", 0, NONE, x -> is(x.end(1)));
        refused("law(0)", 0, NONE, x -> is(x.law(0)));
        refused("stirs(0)", 0, NONE, x -> is(x.stirs(0)));
        refused("stirs(10)", 0, NONE, x -> is(x.stirs(10)));
        none("cook(1,1)", 0, x -> x.cook(1, 1));
        none("cook(61,10)", 0, x -> x.cook(61, 10));
        none("stir()", 0, x -> x.stir());
        refused("turn(true)", 0, 0, x -> is(x.turn(true)));
        refused("turn(false)", 0, 0, x -> is(x.turn(false)));
        none("move(0,1)", 0, x -> x.move(0, 1));
        none("move(0,0)", 0, x -> x.move(0, 0));
        none("eat(0)", 0, x -> x.eat(0));
        none("habits(1,1)", NONE, x -> x.habits(1, 1));
        none("undo()", NONE, x -> x.undo());
        none("image()", NONE, x -> x.image());
        none("back()", NONE, x -> x.back());
        none("tell(0,true)", NONE, x -> x.tell(0, true));
        none("set(0,1,true)", NONE, x -> x.set(0, 1, true));
        none("span(0)", NONE, x -> x.span(0));
        none("odds(0,0)", NONE, x -> x.odds(0, 0));
    }

    private static void onSome() {
        CALLS.clear();
        outOfBounds(true);
        none("text(0), a FAULT", NONE, x -> x.text(0));
        none("text(1), a FAULT", NONE, x -> x.text(1));
        refused("end(5) of four", 0, NONE, x -> is(x.end(5)));
        refused("law(2) of two", 0, NONE, x -> is(x.law(2)));
        refused("stirs(4), it is so", 0, NONE, x -> is(x.stirs(4)));
        refused("stirs(10)", 0, NONE, x -> is(x.stirs(10)));
        none("cook(0,1)", 1, x -> x.cook(0, 1));
        none("cook(61,1)", 1, x -> x.cook(61, 1));
        none("cook(1,6)", 1, x -> x.cook(1, 6));
        refused("turn(true), it is so", 0, 2, x -> is(x.turn(true)));
        none("move(4,3), no such CELL", 0, x -> x.move(4, 3));
        none("move(0,4), no such CELL", 0, x -> x.move(0, 4));
        none("move(3,2), no FOOD", 0, x -> x.move(3, 2));
        none("move(3,0), no FOOD, FOOD in the other", 0, x -> x.move(3, 0));
        none("move(0,2), FOOD in the other", 2, x -> x.move(0, 2));
        none("move(2,2), FOOD in the other", 2, x -> x.move(2, 2));
        none("eat(3), no FOOD", 0, x -> x.eat(3));
        none("eat(4), no such CELL", 0, x -> x.eat(4));
        none("habits(0,1)", NONE, x -> x.habits(0, 1));
        none("habits(61,1)", NONE, x -> x.habits(61, 1));
        none("tell(4,false)", NONE, x -> x.tell(4, false));
        none("set(3,1,false)", NONE, x -> x.set(3, 1, false));
        none("set(0,100,false)", NONE, x -> x.set(0, 100, false));
        none("heats(3,1,1)", NONE, x -> x.heats(3, 1, 1));
        none("heats(0,61,1)", NONE, x -> x.heats(0, 61, 1));
        none("place(3,1)", NONE, x -> x.place(3, 1));
        none("place(0,21)", NONE, x -> x.place(0, 21));
        refused("turning(21)", HIDDEN, NONE, x -> x.turning(21));
        refused("runs(21,1)", HIDDEN, NONE, x -> x.runs(21, 1));
        none("weak(3,0)", NONE, x -> x.weak(3, 0));
        none("once(5,0)", NONE, x -> x.once(5, 0));
        none("odds(9,50)", NONE, x -> x.odds(9, 50));
        none("dish(2,0)", NONE, x -> x.dish(2, 0));
        none("next(3,1)", NONE, x -> x.next(3, 1));
        none("joined(3)", NONE, x -> x.joined(3));
        none("span(6)", NONE, x -> x.span(6));
    }

    private static void onFull() {
        CALLS.clear();
        outOfBounds(true);
        none("feed of one more", NONE, x -> x.feed(0, 0, 1, 0, 0));
        none("feed of twenty more", NONE, x -> x.feed(-1, -1, -1, -1, -1));
        none("feed of the smallest", NONE, x -> x.feed(LEAST_INT, 0, 0, 0, 0));
        none("feed of the largest", NONE, x -> x.feed(0, 0, 0, 0, MOST_INT));
        none("text(0), a FAULT", NONE, x -> x.text(0));
        none("text(1), there are four", NONE, x -> x.text(1));
        refused("end(241)", 0, NONE, x -> is(x.end(241)));
        refused("law(4) of four", 0, NONE, x -> is(x.law(4)));
        none("cook(1,1), beyond 9,999", 3, x -> x.cook(1, 1));
        none("cook(60,0), beyond 9,999", 3, x -> x.cook(60, 0));
        none("cook(0,0), out of bounds first", 1, x -> x.cook(0, 0));
        none("cook(1,6), out of bounds first", 1, x -> x.cook(1, 6));
        none("habits(1,1), beyond 9,999", NONE, x -> x.habits(1, 1));
        none("habits(60,1), beyond 9,999", NONE, x -> x.habits(60, 1));
        none("eat(0), the last one", 3, x -> x.eat(0));
        none("eat(1), no FOOD", 0, x -> x.eat(1));
        none("move(0,0), FOOD there", 2, x -> x.move(0, 0));
        refused("turn(true), it is so", 0, 2, x -> is(x.turn(true)));
        none("tell the 11th", NONE, x -> x.tell(1, false));
        none("set the 11th", NONE, x -> x.set(0, 1, false));
        none("log(60,0)", NONE, x -> x.log(60, 0));
    }

    // ---- what is asked

    private static void ask(String name, Call call) {
        CALLS.add(new Refused(name, MOST_INT, NONE, call));
    }

    private static void asks() {
        CALLS.clear();
        ask("fault(0)", x -> x.fault(0));
        ask("fault(1)", x -> x.fault(1));
        for (int what = 0; what <= 5; what++) {
            int which = what;
            ask("oven(" + what + ")", x -> x.oven(which));
            ask("spot(0," + what + ")", x -> Due.spot(x, 0, which));
            ask("spot(3," + what + ")", x -> Due.spot(x, 3, which));
        }
        for (int what = 0; what <= 16; what++) {
            int which = what;
            ask("count(" + what + ")", x -> x.count(which));
        }
        for (int power = 0; power <= 5; power++) {
            int by = power;
            ask("span(" + power + ")", x -> x.span(by));
            ask("heats(0,60," + power + ")", x -> x.heats(0, 60, by));
            ask("next(0," + power + ")", x -> x.next(0, by));
            ask("runs(20," + power + ")", x -> x.runs(20, by));
        }
        ask("dish(0,0)", x -> x.dish(0, 0));
        ask("status(0)", x -> x.status(0));
        ask("log(0,1)", x -> x.log(0, 1));
        ask("soonest(0)", x -> x.soonest(0));
        ask("soonest(1)", x -> x.soonest(1));
        ask("without()", x -> x.without());
        ask("place(0,20)", x -> x.place(0, 20));
        ask("turning(1)", x -> x.turning(1));
        ask("turning(20)", x -> x.turning(20));
        ask("weak(1,NONE)", x -> x.weak(1, NONE));
        ask("weak(2,0)", x -> x.weak(2, 0));
        ask("best(1)", x -> x.best(1));
        ask("best(2)", x -> x.best(2));
        for (int k = 1; k <= 4; k++) {
            int many = k;
            ask("once(" + k + ",0)", x -> x.once(many, 0));
            ask("once(" + k + ",1)", x -> x.once(many, 1));
        }
        ask("order(0)", x -> x.order(0));
        ask("order(1)", x -> x.order(1));
        ask("together(2)", x -> x.together(2));
        ask("bite()", x -> x.bite());
        ask("odds(8,50)", x -> x.odds(8, 50));
        ask("how(NONE)", x -> x.how(NONE));
        ask("how(0)", x -> x.how(0));
        ask("mean()", x -> x.mean());
        ask("hottest()", x -> x.hottest());
        ask("rim()", x -> x.rim());
        ask("lump()", x -> x.lump());
        ask("joined(0)", x -> x.joined(0));
        ask("law as it is", x -> is(x.law(x.count(5))));
        ask("end as it is", x -> is(x.end(x.count(4))));
        ask("feed of nothing", x -> x.feed(0, 0, 0, 0, 0));
    }

    // ---- the two objects

    /** 0: without a LUNCH; 1: some of all; 2: all that has a limit is full. */
    private static ColdMiddle made(int kind) {
        ColdMiddle x = new ColdMiddle();
        if (kind == 0) {
            return x;
        }
        Due.write(x, "sw2h2p5s3b60a50;fc0i9d20t2;fc1d49;fc2d5;mc1s15;dn3;dn5w4");
        x.text(0);
        for (int law = 0; law < 2 * kind; law++) {
            Due.write(x, "y:p+e+" + law + "-t/4");
            x.text(1);
        }
        x.law(1);
        x.stirs(4);
        x.stir();
        x.cook(4, 5);
        x.image();
        x.turn(true);
        if (kind == 1) {
            x.cook(7, 3);
            x.cook(0, 0);
            x.tell(0, true);
            x.set(0, 9, true);
            Due.write(x, "fc16");
            return x;
        }
        for (int ten = 4; ten < 9999; ten += 60) {
            x.cook(Math.min(60, 9999 - ten), ten / 4 % 6);
        }
        x.eat(1);
        x.eat(2);
        for (int i = 0; i < 10; i++) {
            x.tell(i % 2 * 3, true);
            x.set(0, 9 + i, true);
        }
        Due.write(x, "y:" + "1+".repeat(118) + "12");
        return x;
    }

    private static void check(String what, int kind) {
        List<String> want = taken(made(kind));
        for (Refused one : CALLS) {
            Due.sentence("What is refused answers as told and changes nothing but STATUS (" + what + ")");
            ColdMiddle x = made(kind);
            long got = one.call.of(x);
            if (one.want != MOST_INT) {
                Due.due(one.name, got, one.want);
            }
            List<String> all = taken(x);
            for (int i = 0; i < Math.min(want.size(), all.size()); i++) {
                String due = want.get(i);
                if (one.reason >= 0 && due.startsWith("status(" + one.reason + ") ")) {
                    int space = due.indexOf(' ');
                    due = due.substring(0, space + 1) + (Integer.parseInt(due.substring(space + 1)) + 1);
                }
                Due.due("behind " + one.name + ": the answer " + i, all.get(i), due);
            }
            Due.due("how many answers behind " + one.name, all.size(), want.size());
        }
    }

    /** All that can be asked, then all that is kept: ACTS, the IMAGE, the TAPE, what HABITS do. */
    private static List<String> taken(ColdMiddle x) {
        List<String> all = new ArrayList<>();
        for (int reason = 0; reason < 4; reason++) {
            all.add("status(" + reason + ") " + x.status(reason));
        }
        for (int what = 0; what <= 16; what++) {
            all.add("count(" + what + ") " + x.count(what));
        }
        for (int what = 0; what <= 5; what++) {
            all.add("oven(" + what + ") " + x.oven(what));
        }
        for (int i : new int[] {0, 1, 9, 10, 11, 12, 58, 59}) {
            all.add("log(" + i + ") " + x.log(i, 0) + " " + x.log(i, 1) + " " + x.log(i, 2));
        }
        all.add("dishes " + x.dish(0, 0) + " " + x.dish(1, 1));
        all.add("faults " + x.fault(0) + " " + x.fault(1));
        all.add("weak " + x.weak(1, NONE) + " " + x.weak(2, NONE) + " " + x.weak(1, 0));
        all.add("how " + x.how(NONE) + " " + x.how(0));
        addPlate(all, x);
        int left = 0;
        for (int i = 0; i <= 40 && left != NONE; i++) {
            left = x.undo();
            all.add("undo() " + left);
        }
        addPlate(all, x);
        all.add("back() " + x.back() + " " + x.count(16));
        addPlate(all, x);
        all.add("habits(3,5) " + x.habits(3, 5));
        addPlate(all, x);
        if (x.count(4) == 4) {
            all.add("end(3) " + x.end(3));
            all.add("text(0) " + x.text(0));
            addPlate(all, x);
        }
        for (int reason = 0; reason < 4; reason++) {
            all.add("status(" + reason + ") " + x.status(reason));
        }
        return all;
    }

    private static void addPlate(List<String> all, ColdMiddle x) {
        StringBuilder s = new StringBuilder("plate");
        for (int cell = 0; cell < 4; cell++) {
            for (int what = 0; what <= 3; what++) {
                s.append(' ').append(Due.spot(x, cell, what));
            }
            s.append(' ').append(x.next(cell, 1));
        }
        s.append(" TEN ").append(x.count(6)).append(" turns ").append(x.count(7)).append(" log ").append(x.count(15));
        s.append(" acts ").append(x.count(16)).append(" burst ").append(x.count(9));
        s.append(" latest ").append(x.log(0, 1));
        all.add(s.toString());
    }
}

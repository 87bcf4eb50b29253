import java.util.ArrayList;
import java.util.List;

/**
 * An object is used for at most 512 calls after it has been made: what is promised holds up to the last of them. The
 * same scene is played on new objects and as the last calls of objects that were used in one way all along; its answers
 * must be the same.
 */
public final class LongUseTest {
    private static final int NONE = Due.NONE;
    private static final int MOST_CALLS = 512;
    private static final String PLATE = "sw3h2p6b60a45s3;fc1d40t1;fc2i9d7;fc4d12t9;mc0s20;mc4s0;dn3w2;dn9w1;dn1";

    private interface Call {
        long of(ColdMiddle x);
    }

    private static final List<Call> SCENE = new ArrayList<>();

    public static void main(String[] args) {
        scene();
        List<Long> want = played(new ColdMiddle(), null);
        Due.sentence("An object is used for at most 512 calls");
        Due.due("calls of the scene, and as many ahead of it", 2 * (SCENE.size() + feeds()) <= MOST_CALLS, true);
        byTape("feed and end", want, "", x -> x.feed(-1, 0x20, 0, 0, 1), x -> is(x.end(0)));
        byTape("feed of a full TAPE", want, "f" + " ".repeat(230), x -> x.feed(-1, -1, -1, -1, -1), x -> x.fault(0));
        byTape("FAULTS", want, "f;fc1;m;d;sw5h5p9", x -> x.fault(0), x -> x.fault(1), x -> x.fault(2));
        byTape("FAULTS of a LAW", want, "y:!(p=1|!t<2)&[m-1]>[[3]]?[[[p]*2]/0];y:9999+", x -> x.fault(1), x -> x.fault(0));
        byTape("text", want, "f;fc1", x -> x.text(1), x -> x.text(2), x -> x.text(-1));
        byTape("LUNCHES", want, "", x -> x.feed(0x663b6663, 0x313b643b, 0x6d000000, 0, 0), x -> x.text(0), x -> x.cook(3, 4),
                x -> x.image(), x -> is(x.turn(true)));
        by("TENS", want, PLATE, x -> x.cook(60, 6), x -> x.cook(1, 0));
        by("TENS undone", want, PLATE, x -> x.cook(60, 6), x -> x.undo(), x -> x.undo(), x -> x.undo());
        by("STIRRED", want, PLATE, x -> x.stir());
        by("TURNS", want, PLATE, x -> is(x.turn(true)), x -> is(x.turn(false)));
        by("MOVED", want, PLATE, x -> x.move(1, 0), x -> x.move(0, 1), x -> x.move(4, 4));
        by("EATEN and undone", want, PLATE, x -> x.eat(1), x -> x.eat(2), x -> x.eat(4), x -> x.undo(), x -> x.undo());
        by("HABITS", want, PLATE, x -> is(x.stirs(9)), x -> x.habits(60, 5), x -> x.habits(1, -1), x -> is(x.stirs(1)));
        by("IMAGES", want, PLATE, x -> x.image(), x -> x.cook(59, 3), x -> x.back(), x -> x.cook(1, 1), x -> x.undo());
        by("refused", want, PLATE, x -> x.cook(0, 0), x -> x.move(9, 9), x -> x.eat(3), x -> is(x.law(7)), x -> x.feed(-1,
                -1, -1, -1, -1));
        by("spot", want, PLATE, x -> Due.spot(x, 6, 0), x -> Due.spot(x, 0, 6), x -> Due.spot(x, 1, 4));
        by("SOONEST", want, "s;" + foods() + ";d", x -> x.soonest(0), x -> x.soonest(1), x -> x.without());
        by("ODDS", want, PLATE, x -> x.odds(8, 50), x -> x.odds(8, 1));
        by("WEAK", want, "sw5h5;f", x -> x.tell(3, true), x -> x.weak(2, NONE), x -> x.weak(2, 99), x -> x.best(2));
        by("HOW", want, PLATE, x -> x.set(1, 30, true), x -> x.how(NONE), x -> x.how(9));
        by("apart", want, PLATE, x -> x.place(1, 20), x -> x.turning(20), x -> x.runs(20, 6), x -> x.span(1),
                x -> x.once(4, 0), x -> x.heats(1, 60, 6), x -> x.order(0), x -> x.together(2));
        statusOfAll();
        sideBySide(want);
        Due.end();
    }

    private static long is(boolean answer) {
        return answer ? 1 : 0;
    }

    private static String foods() {
        StringBuilder s = new StringBuilder("fc3");
        for (int cell = 4; cell < 15; cell++) {
            s.append(";fc").append(cell);
        }
        return s.toString();
    }

    // ---- the scene: a LUNCH, what is asked of it, what is done to it, what is asked then

    private static void feed(String text) {
        for (int at = 0; at < text.length(); at += 20) {
            String some = text.substring(at, Math.min(text.length(), at + 20));
            SCENE.add(x -> Due.write(x, some));
        }
    }

    private static void scene() {
        feed(PLATE);
        SCENE.add(x -> x.fault(1));
        SCENE.add(x -> x.fault(0));
        SCENE.add(x -> x.text(0));
        for (int what : new int[] {0, 1, 2, 4, 5, 6, 7, 8, 9, 10, 11, 12, 13, 14, 15, 16, 17}) {
            SCENE.add(x -> x.count(what));
        }
        for (int cell = 0; cell < 6; cell++) {
            int here = cell;
            for (int what = 0; what < 6; what++) {
                int which = what;
                SCENE.add(x -> Due.spot(x, here, which));
            }
        }
        asks();
        SCENE.add(x -> x.back());
        SCENE.add(x -> x.undo());
        SCENE.add(x -> x.log(0, 0));
        SCENE.add(x -> is(x.turn(true)));
        SCENE.add(x -> x.cook(3, 6));
        SCENE.add(x -> x.image());
        SCENE.add(x -> is(x.stirs(5)));
        SCENE.add(x -> x.habits(7, 12345));
        SCENE.add(x -> x.stir());
        SCENE.add(x -> x.move(2, 5));
        SCENE.add(x -> x.eat(1));
        SCENE.add(x -> x.cook(60, 1));
        asks();
        SCENE.add(x -> x.undo());
        SCENE.add(x -> x.log(0, 1));
        SCENE.add(x -> x.log(58, 1));
        SCENE.add(x -> x.log(59, 1));
        SCENE.add(x -> x.back());
        asks();
        for (int i = 0; i < 4; i++) {
            int row = i;
            SCENE.add(x -> x.log(row, 2));
        }
        SCENE.add(x -> x.undo());
    }

    private static void asks() {
        SCENE.add(x -> x.oven(2));
        SCENE.add(x -> x.dish(1, 0));
        SCENE.add(x -> x.span(6));
        SCENE.add(x -> x.soonest(0));
        SCENE.add(x -> x.soonest(1));
        SCENE.add(x -> x.without());
        SCENE.add(x -> x.heats(4, 9, 5));
        SCENE.add(x -> x.place(4, 7));
        SCENE.add(x -> x.turning(5));
        SCENE.add(x -> x.runs(4, 6));
        SCENE.add(x -> x.tell(2, true));
        SCENE.add(x -> x.weak(2, NONE));
        SCENE.add(x -> x.weak(2, 3));
        SCENE.add(x -> x.best(1));
        SCENE.add(x -> x.once(2, 0));
        SCENE.add(x -> x.once(3, 1));
        SCENE.add(x -> x.order(0));
        SCENE.add(x -> x.order(1));
        SCENE.add(x -> x.together(2));
        SCENE.add(x -> x.bite());
        SCENE.add(x -> x.odds(6, 40));
        SCENE.add(x -> x.set(1, 45, true));
        SCENE.add(x -> x.how(NONE));
        SCENE.add(x -> x.how(2));
        SCENE.add(x -> x.mean());
        SCENE.add(x -> x.hottest());
        SCENE.add(x -> x.rim());
        SCENE.add(x -> x.lump());
        SCENE.add(x -> x.joined(4));
        SCENE.add(x -> x.next(4, 6));
    }

    /** The answers of the scene; ahead of each of its calls another object may be used. */
    private static List<Long> played(ColdMiddle x, Runnable other) {
        List<Long> answers = new ArrayList<>();
        for (Call call : SCENE) {
            if (other != null) {
                other.run();
            }
            answers.add(call.of(x));
        }
        return answers;
    }

    // ---- objects that were used

    /** It is told this LUNCH, then used by these calls in turn. */
    private static void by(String what, List<Long> want, String lunch, Call... round) {
        ColdMiddle x = new ColdMiddle();
        int calls = 1 + write(x, lunch);
        Due.sentence("An object is used for at most 512 calls; used by: " + what);
        Due.due("text(0) of " + lunch, x.text(0) > 0, true);
        useUp(x, calls, want, round);
    }

    /** This text stays on its TAPE while it is used by these calls in turn. */
    private static void byTape(String what, List<Long> want, String text, Call... round) {
        ColdMiddle x = new ColdMiddle();
        int calls = write(x, text);
        Due.sentence("An object is used for at most 512 calls; used by: " + what);
        useUp(x, calls, want, round);
    }

    /** By how many calls it was written. */
    private static int write(ColdMiddle x, String text) {
        int calls = 0;
        for (int at = 0; at < text.length(); at += 20) {
            Due.write(x, text.substring(at, Math.min(text.length(), at + 20)));
            // Due.write asks for the length of the TAPE first.
            calls += 2;
        }
        return calls;
    }

    private static void useUp(ColdMiddle x, int before, List<Long> want, Call... round) {
        int last = MOST_CALLS - SCENE.size() - feeds() - 3;
        for (int calls = before; calls < last; calls++) {
            round[(calls - before) % round.length].of(x);
        }
        x.end(0);
        x.law(NONE);
        x.stirs(0);
        List<Long> got = played(x, null);
        for (int i = 0; i < got.size(); i++) {
            Due.due("the answer " + i + " of the scene", got.get(i), want.get(i));
        }
    }

    /** Calls of the scene that ask for the length of the TAPE first. */
    private static int feeds() {
        return (PLATE.length() + 19) / 20;
    }

    private static void statusOfAll() {
        Due.sentence("An object is used for at most 512 calls: STATUS up to the last");
        ColdMiddle x = new ColdMiddle();
        for (int i = 1; i < MOST_CALLS; i++) {
            Due.due("stir() without a LUNCH", x.stir(), NONE);
        }
        Due.due("status(0), the 512th call", x.status(0), MOST_CALLS - 1);
        ColdMiddle y = Due.lunch("f");
        for (int i = 4; i < MOST_CALLS; i++) {
            Due.due("cook(61,0)", y.cook(61, 0), NONE);
        }
        Due.due("status(1), the 512th call", y.status(1), MOST_CALLS - 4);
        ColdMiddle tens = Due.lunch("sw1h1;f");
        int calls = 4;
        for (int ten = 0; ten < 9999; ten += 60) {
            Due.due("cook to the last TEN", tens.cook(Math.min(60, 9999 - ten), 0), Math.min(9999, ten + 60));
            calls++;
        }
        while (calls < MOST_CALLS - 2) {
            Due.due("cook beyond it", tens.cook(1, 0), NONE);
            calls++;
        }
        Due.due("count(6), the 511th call", tens.count(6), 9999);
        Due.due("undo(), the 512th call", tens.undo(), 39);
    }

    private static void sideBySide(List<Long> want) {
        Due.sentence("A new object: No LUNCH, whatever others were told; what one does is not seen by another");
        ColdMiddle other = Due.lunch("sw5h5p9s9b50a30;fc24i99;f;mc1s1;d;dn30w9", "y:p*p+d");
        other.stirs(7);
        other.cook(0, 0);
        int[] round = {0};
        List<Long> got = played(new ColdMiddle(), () -> {
            round[0]++;
            switch (round[0] % 6) {
                case 0 -> other.cook(2, 9);
                case 1 -> other.soonest(0);
                case 2 -> other.turn(round[0] % 4 < 2);
                case 3 -> other.habits(3, round[0]);
                case 4 -> other.odds(3, 50);
                default -> {
                    Due.write(other, "f");
                    other.text(round[0] % 5 == 0 ? 0 : 1);
                    other.image();
                }
            }
        });
        for (int i = 0; i < got.size(); i++) {
            Due.due("the answer " + i + " of the scene", got.get(i), want.get(i));
        }
        ColdMiddle x = new ColdMiddle();
        for (int what = 0; what <= 16; what++) {
            Due.due("count(" + what + ") of a new one", x.count(what), what == 5 ? NONE : 0);
        }
        Due.dueStatus("none", x, "0 0 0 0");
    }
}

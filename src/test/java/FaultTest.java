import java.util.Random;

/**
 * The FAULT is the first byte at which no such TEXT can go on: what stands ahead of it can go on to a TEXT that has no
 * FAULT, what stands up to it can't, whatever follows. No grammar is told here: texts grow sign by sign by fixed seeds.
 */
public final class FaultTest {
    private static final int NONE = Due.NONE;
    private static final int LAW = 1;
    private static final int MOST = 240;
    private static final String[] SIGNS = {"sfmdwhpbactin;0123456789 ", "y:y:pmtide01239+-*/=<>&|!()[]?; "};
    /** Signs that end what is open in a LAW; the first that can stand is taken. */
    private static final String ENDS = "])?=:y1";
    private static final int MOST_SIGNS_MORE = 60;

    /** So many texts take an object at most that it stays within its 512 calls. */
    private static final int MOST_TEXTS = 30;

    private static Random random = new Random(0);
    private static ColdMiddle x = new ColdMiddle();
    private static int texts = 0;

    public static void main(String[] args) {
        for (int run = 0; run < 4000; run++) {
            random = new Random(run);
            check(run % 2, grown(run % 2));
        }
        longest();
        Due.end();
    }

    private static int faultOf(int sort, String text) {
        texts++;
        if (texts > MOST_TEXTS) {
            x = new ColdMiddle();
            texts = 1;
        }
        x.end(0);
        Due.write(x, text);
        return x.fault(sort);
    }

    private static boolean canGoOn(int sort, String text) {
        int fault = faultOf(sort, text);
        return fault == NONE || fault >= text.length();
    }

    private static String any(int sort) {
        String signs = random.nextInt(50) == 0 ? "\u0001x#}~\u007f\u00e9\u00ff" : SIGNS[sort];
        return "" + signs.charAt(random.nextInt(signs.length()));
    }

    /** Mostly signs by which it can go on, now and then another one. */
    private static String grown(int sort) {
        String text = "";
        int length = random.nextInt(60);
        int tries = 0;
        while (text.length() < length && tries < 1000) {
            tries++;
            String sign = any(sort);
            if (canGoOn(sort, text + sign) || random.nextInt(400) == 0) {
                text += sign;
            }
        }
        return text;
    }

    private static void check(int sort, String text) {
        Due.sentence("FAULT: the first byte at which no such TEXT can go on (the length, if it ends too early)");
        int fault = faultOf(sort, text);
        Due.due("fault(" + sort + ") of \"" + text + "\" within it", fault >= NONE && fault <= text.length(), true);
        int sound = fault == NONE ? text.length() : fault;
        for (int end = 0; end <= sound; end++) {
            String ahead = text.substring(0, end);
            if (!isWithinNumber(text, end)) {
                dueGoesOn(sort, ahead);
                dueGoesOn(sort, ahead + " ");
            }
        }
        if (sort == LAW && !isWithinNumber(text, sound)) {
            ends(text.substring(0, sound));
        }
        for (int i = 0; fault != NONE && fault < text.length() && i < 8; i++) {
            String more = i == 0 ? "" : any(sort) + any(sort) + any(sort);
            if (sort == LAW || more.isEmpty() || !isDigit(more.charAt(0))) {
                dueStays(sort, text.substring(0, fault + 1) + more, fault);
            }
        }
    }

    /**
     * Between two digits: a number below its bounds is wrong at its last digit though another digit could mend it, and a
     * third digit is wrong itself whatever stands ahead of it.
     */
    private static boolean isWithinNumber(String text, int end) {
        return end > 0 && end < text.length() && isDigit(text.charAt(end - 1)) && isDigit(text.charAt(end));
    }

    private static void dueGoesOn(int sort, String text) {
        Due.due("fault(" + sort + ") of \"" + text + "\" can go on", canGoOn(sort, text), true);
    }

    private static boolean isDigit(char sign) {
        return sign >= '0' && sign <= '9';
    }

    private static void dueStays(int sort, String text, int fault) {
        Due.due("fault(" + sort + ") of \"" + text + "\", whatever follows", faultOf(sort, text), fault);
    }

    /** A LAW that can go on can go on to its end. */
    private static void ends(String text) {
        String whole = text;
        for (int i = 0; i < MOST_SIGNS_MORE && faultOf(LAW, whole) != NONE; i++) {
            for (char sign : ENDS.toCharArray()) {
                if (canGoOn(LAW, whole + sign)) {
                    whole += sign;
                    break;
                }
            }
        }
        Due.due("fault(1) of \"" + whole + "\", which ends \"" + text + "\"", faultOf(LAW, whole), NONE);
    }

    /** Texts as long as the TAPE. */
    private static void longest() {
        Due.sentence("FAULT of a TEXT of 240 bytes: at each of them");
        String law = "y:" + "p+".repeat(118) + "pp";
        Due.dueLaw(law, MOST - 1);
        for (int at = 2; at < MOST - 1; at++) {
            Due.dueLaw(law.substring(0, at) + "x" + law.substring(at + 1), at);
        }
        String lunch = "f" + " ".repeat(MOST - 1);
        for (int at = 0; at < MOST; at++) {
            Due.dueLunch(lunch.substring(0, at) + "x" + lunch.substring(at + 1), at);
        }
    }
}

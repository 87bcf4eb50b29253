import java.util.NoSuchElementException;

/** What the tests of bounds share: the sentence of the document at stake, and answers held against it. */
final class Due {
    static final int NONE = -1;
    static final int HIDDEN = -1000000;
    /** Stands for the exception of spot. */
    static final int THROWN = -77777777;
    /** The smallest and the largest numbers that a call can be given. */
    static final int[] FAR = {Integer.MIN_VALUE, Integer.MIN_VALUE + 1, Integer.MAX_VALUE - 1, Integer.MAX_VALUE};

    private static int wrong = 0;
    private static String sentence = "";

    private Due() {
    }

    /** The sentence that the next answers are due by. */
    static void sentence(String words) {
        sentence = words;
    }

    static void due(String call, long got, long want) {
        if (got != want) {
            wrong++;
            System.out.println("\"" + sentence + "\": " + call + " answered " + got + ", due is " + want);
        }
    }

    static void due(String call, boolean got, boolean want) {
        due(call, got ? 1 : 0, want ? 1 : 0);
    }

    static void due(String call, String got, String want) {
        if (!got.equals(want)) {
            wrong++;
            System.out.println("\"" + sentence + "\": " + call + " answered " + got + ", due is " + want);
        }
    }

    /** Ends the test: with exit code 1 if an answer was not the one that was due. */
    static void end() {
        if (wrong > 0) {
            System.out.println(wrong + " answers are not as due");
            System.exit(1);
        }
    }

    private static int four(String text, int from) {
        int number = 0;
        for (int i = from; i < from + 4; i++) {
            number = number << 8 | (i < text.length() ? text.charAt(i) : 0);
        }
        return number;
    }

    /** Feeds a text; its bytes may be 1 .. 255. */
    static int write(ColdMiddle x, String text) {
        int length = x.count(4);
        for (int at = 0; at < text.length(); at += 20) {
            length = x.feed(four(text, at), four(text, at + 4), four(text, at + 8), four(text, at + 12),
                    four(text, at + 16));
        }
        return length;
    }

    static ColdMiddle written(String text) {
        ColdMiddle x = new ColdMiddle();
        write(x, text);
        return x;
    }

    static void dueFault(int sort, String text, int want) {
        due("fault(" + sort + ") of \"" + text + "\"", written(text).fault(sort), want);
    }

    static void dueLunch(String text, int want) {
        dueFault(0, text, want);
    }

    static void dueLaw(String text, int want) {
        dueFault(1, text, want);
    }

    static ColdMiddle lunch(String text) {
        ColdMiddle x = written(text);
        if (x.text(0) == NONE) {
            due("text(0) of \"" + text + "\", its FAULT", x.fault(0), NONE);
        }
        return x;
    }

    /** A LUNCH by a LAW that holds. */
    static ColdMiddle lunch(String text, String law) {
        ColdMiddle x = lunch(text);
        write(x, law);
        due("text(1) of \"" + law + "\"", x.text(1), 0);
        due("law(0)", x.law(0), true);
        return x;
    }

    static int spot(ColdMiddle x, int cell, int what) {
        try {
            return x.spot(cell, what);
        } catch (NoSuchElementException e) {
            return THROWN;
        }
    }

    static int thick(ColdMiddle x, int cell) {
        return spot(x, cell, 1);
    }

    static int ice(ColdMiddle x, int cell) {
        return spot(x, cell, 2);
    }

    static int degrees(ColdMiddle x, int cell) {
        return spot(x, cell, 3);
    }

    /** The four numbers of STATUS. */
    static String statuses(ColdMiddle x) {
        return x.status(0) + " " + x.status(1) + " " + x.status(2) + " " + x.status(3);
    }

    static void dueStatus(String call, ColdMiddle x, String want) {
        due("STATUS behind " + call, statuses(x), want);
    }

    /** Cooks so many TENS by POWER 0, by as few calls as can be. */
    static void stand(ColdMiddle x, int tens) {
        for (int left = tens; left > 0; left -= 60) {
            x.cook(Math.min(60, left), 0);
        }
    }
}

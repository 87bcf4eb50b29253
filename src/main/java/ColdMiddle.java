import java.util.NoSuchElementException;

/** An oven, a plate of food and those who wait with dishes, as ../shared/DOC.md tells them. */
public final class ColdMiddle {
    public static final int NONE = -1;
    public static final int HIDDEN = -1000000;

    private static final int NO_SUCH_SORT = -2;
    private static final int LUNCH = 0;
    private static final int LAW = 1;

    private static final int MOST_BYTES = 240;
    private static final int MOST_CELLS = 25;
    private static final int SIDES = 4;
    private static final int MOST_DISHES = 6;
    private static final int MOST_LAWS = 4;
    private static final int MOST_NOTES = 10;
    private static final int MOST_ACTS = 40;
    private static final int MOST_LOGGED = 60;
    private static final int MOST_COOKED = 60;
    private static final int MOST_TRIED = 20;
    private static final int MOST_IN_ROW = 6;
    private static final int MOST_BY_ODDS = 8;
    private static final int MOST_PLATES = 4;
    private static final int MOST_DEGREES_SET = 99;
    private static final int LAST_TEN = 9999;
    /** More than anything that is compared with it. */
    private static final int FAR = 1000000000;

    private static final int WIDTH = 0;
    private static final int HEIGHT = 1;
    private static final int FULL = 2;
    private static final int SPREAD = 3;
    private static final int BURSTS = 4;
    private static final int SAFE = 5;

    private static final int REFUSED_NO_SUCH = 0;
    private static final int REFUSED_BOUNDS = 1;
    private static final int REFUSED_IS_SO = 2;
    private static final int REFUSED_LAST = 3;

    private final Tape tape = new Tape();
    private final LunchReader lunchReader = new LunchReader(tape);
    private final LawReader lawReader = new LawReader(tape);
    private final Law[] laws = new Law[MOST_LAWS];
    private int lawCount;
    private int lawHeld = NONE;
    private int stirsBelow;
    private final int[] refusals = new int[4];
    private final Kitchen kitchen = new Kitchen();
    private final Ahead ahead = new Ahead(kitchen);
    private final Plate plate = new Plate();
    private final Acts acts = new Acts();
    private final Log logged = new Log();
    private final Plate keptPlate = new Plate();
    private final Log keptLog = new Log();
    private boolean hasImage;
    private final Notes cups = new Notes();
    private final Notes settings = new Notes();

    public ColdMiddle() {
        for (int i = 0; i < laws.length; i++) {
            laws[i] = new Law();
        }
    }

    // ---- the TAPE and its TEXTS

    public int feed(int a, int b, int c, int d, int e) {
        int more = signsIn(a) + signsIn(b) + signsIn(c) + signsIn(d) + signsIn(e);
        if (tape.length + more > MOST_BYTES) {
            return NONE;
        }
        tape.add(a);
        tape.add(b);
        tape.add(c);
        tape.add(d);
        tape.add(e);
        return tape.length;
    }

    private static int signsIn(int number) {
        int signs = 0;
        for (int shift = 24; shift >= 0; shift -= 8) {
            if (((number >>> shift) & 255) != 0) {
                signs++;
            }
        }
        return signs;
    }

    public boolean end(int n) {
        if (n < 0 || n > tape.length) {
            return false;
        }
        tape.length = n;
        return true;
    }

    public int fault(int sort) {
        if (sort == LUNCH) {
            return lunchReader.read();
        }
        return sort == LAW ? lawReader.read() : NO_SUCH_SORT;
    }

    public int text(int sort) {
        if (sort == LUNCH) {
            return lunchReader.read() == NONE ? takeLunch() : NONE;
        }
        if (sort == LAW && lawCount < MOST_LAWS && lawReader.read() == NONE) {
            return takeLaw();
        }
        return NONE;
    }

    private int takeLunch() {
        Lunch old = kitchen.lunch;
        kitchen.lunch = lunchReader.lunch;
        lunchReader.lunch = old;
        plate.become(kitchen.lunch.told);
        acts.forget();
        cups.forget();
        settings.forget();
        hasImage = false;
        tape.length = 0;
        return plate.foods();
    }

    private int takeLaw() {
        Law law = lawCount >= 0 && lawCount < laws.length ? laws[lawCount] : null;
        if (law == null) {
            return NONE;
        }
        law.become(lawReader.law);
        tape.length = 0;
        lawCount++;
        return lawCount - 1;
    }

    // ---- what was told

    private boolean hasLunch() {
        return plate.cells > 0;
    }

    private boolean isCell(int cell) {
        return cell >= 0 && cell < plate.cells && cell < MOST_CELLS;
    }

    private boolean isPower(int power) {
        return power >= 0 && power <= kitchen.lunch.oven[FULL];
    }

    private int fullPower() {
        return kitchen.lunch.oven[FULL];
    }

    private static boolean isWithin(int number, int least, int most) {
        return number >= least && number <= most;
    }

    public int oven(int what) {
        int[] oven = kitchen.lunch.oven;
        if (!hasLunch() || what < 0 || what >= oven.length) {
            return NONE;
        }
        return oven[what];
    }

    public int spot(int cell, int what) throws NoSuchElementException {
        if (!isCell(cell)) {
            throw new NoSuchElementException();
        }
        switch (what) {
            case 0:
                return kitchen.lunch.shareOf(cell);
            case 1:
                return plate.thick[cell];
            case 2:
                return plate.ice[cell];
            case 3:
                return plate.degrees[cell];
            case 4:
                return plate.hasFood(cell) ? kitchen.edges(plate, cell) : 0;
            case 5:
                return plate.burst[cell];
            default:
                throw new NoSuchElementException();
        }
    }

    public int dish(int dish, int what) {
        Lunch lunch = kitchen.lunch;
        if (!hasLunch() || !lunch.hasDish(dish) || !isWithin(what, 0, 1)) {
            return NONE;
        }
        return what == 0 ? lunch.tens[dish] : lunch.minds[dish];
    }

    public boolean law(int law) {
        if (law != NONE && (law < 0 || law >= lawCount || law >= laws.length)) {
            return false;
        }
        lawHeld = law;
        kitchen.law = law == NONE ? null : laws[law];
        return true;
    }

    // ---- by hand

    private int refuse(int reason) {
        if (reason >= 0 && reason < refusals.length) {
            refusals[reason]++;
        }
        return NONE;
    }

    private void passTen(int power) {
        int burst = kitchen.passTen(plate, power);
        logged.write(plate.ten, power, plate.leastDegrees(), burst);
    }

    public int cook(int n, int power) {
        if (!hasLunch()) {
            return refuse(REFUSED_NO_SUCH);
        }
        if (!isWithin(n, 1, MOST_COOKED) || !isPower(power)) {
            return refuse(REFUSED_BOUNDS);
        }
        if (plate.ten + n > LAST_TEN) {
            return refuse(REFUSED_LAST);
        }
        for (int i = 0; i < n; i++) {
            acts.keep(plate);
            passTen(power);
        }
        return plate.ten;
    }

    public int stir() {
        if (!hasLunch()) {
            return refuse(REFUSED_NO_SUCH);
        }
        acts.keep(plate);
        plate.mix();
        return plate.leastDegrees();
    }

    public boolean turn(boolean is) {
        if (!hasLunch()) {
            refuse(REFUSED_NO_SUCH);
            return false;
        }
        if (plate.turns == is) {
            refuse(REFUSED_IS_SO);
            return false;
        }
        acts.keep(plate);
        plate.turns = is;
        return true;
    }

    public int move(int cell, int other) {
        if (!plate.hasFood(cell) || !isCell(other)) {
            return refuse(REFUSED_NO_SUCH);
        }
        if (plate.hasFood(other)) {
            return refuse(REFUSED_IS_SO);
        }
        acts.keep(plate);
        plate.shift(cell, other);
        return kitchen.edges(plate, other);
    }

    public int eat(int cell) {
        if (!plate.hasFood(cell)) {
            return refuse(REFUSED_NO_SUCH);
        }
        if (plate.foods() == 1) {
            return refuse(REFUSED_LAST);
        }
        int taste = taste(cell);
        acts.keep(plate);
        plate.clear(cell);
        return taste;
    }

    private int taste(int cell) {
        if (plate.ice[cell] > 0) {
            return 0;
        }
        if (plate.burst[cell] == 1) {
            return 3;
        }
        return plate.degrees[cell] < kitchen.lunch.oven[SAFE] ? 1 : 2;
    }

    // ---- HABITS, STATUS, ACTS undone, LOG, IMAGE

    public boolean stirs(int v) {
        if (!isWithin(v, 0, 9) || v == stirsBelow) {
            return false;
        }
        stirsBelow = v;
        return true;
    }

    public int habits(int n, long seed) {
        if (!hasLunch() || !isWithin(n, 1, MOST_COOKED) || plate.ten + n > LAST_TEN) {
            return NONE;
        }
        long x = seed;
        for (int i = 0; i < n; i++) {
            acts.keep(plate);
            x = behind(x);
            if (drawn(x, 10) < stirsBelow) {
                plate.mix();
            }
            x = behind(x);
            passTen(drawn(x, fullPower() + 1));
        }
        return plate.ten;
    }

    private static long behind(long x) {
        return x * 6364136223846793005L + 1442695040888963407L;
    }

    private static int drawn(long x, int k) {
        return k <= 0 ? 0 : (int) ((x >>> 33) % k);
    }

    public int status(int what) {
        return what < 0 || what >= refusals.length ? NONE : refusals[what];
    }

    public int undo() {
        if (acts.kept == 0) {
            return NONE;
        }
        acts.takeBack(plate);
        return acts.kept;
    }

    private int logLength() {
        return Math.min(plate.ten, MOST_LOGGED);
    }

    public int log(int i, int what) {
        if (i < 0 || i >= logLength()) {
            return NONE;
        }
        return logged.entry(plate.ten - i, what);
    }

    public int image() {
        if (!hasLunch()) {
            return NONE;
        }
        keptPlate.become(plate);
        keptLog.become(logged);
        hasImage = true;
        return plate.ten;
    }

    public int back() {
        if (!hasImage) {
            return NONE;
        }
        plate.become(keptPlate);
        logged.become(keptLog);
        acts.forget();
        return plate.ten;
    }

    // ---- what is found apart

    public int span(int power) {
        return hasLunch() && isPower(power) ? ahead.tensTillSafe(plate, power) : NONE;
    }

    public int soonest(int what) {
        if (!hasLunch() || !isWithin(what, 0, 1) || !ahead.findRow(plate, 0)) {
            return NONE;
        }
        return what == 0 ? ahead.rowTens : ahead.row;
    }

    public int without() {
        return hasLunch() && ahead.findRow(plate, 1) ? ahead.rowTens : NONE;
    }

    public int heats(int cell, int n, int power) {
        if (!plate.hasFood(cell) || !isWithin(n, 0, MOST_COOKED) || !isPower(power)) {
            return NONE;
        }
        return ahead.behind(plate, n, power).degrees[cell];
    }

    public int place(int cell, int n) {
        if (!plate.hasFood(cell) || !isWithin(n, 1, MOST_TRIED)) {
            return NONE;
        }
        return ahead.bestPlace(plate, cell, n);
    }

    public int turning(int n) {
        if (!hasLunch() || !isWithin(n, 1, MOST_TRIED)) {
            return HIDDEN;
        }
        return ahead.leastBehind(plate, n, true) - ahead.leastBehind(plate, n, false);
    }

    public int runs(int n, int power) {
        if (!hasLunch() || !isWithin(n, 1, MOST_TRIED) || !isPower(power)) {
            return HIDDEN;
        }
        return ahead.behind(plate, n, power).apart() - plate.apart();
    }

    public int tell(int cell, boolean warm) {
        return isCell(cell) && cups.add(cell, 0, warm) ? cups.told : NONE;
    }

    public int weak(int k, int i) {
        return hasLunch() && isWithin(k, 1, 2) ? cups.weakCells(plate.cells, k, i) : NONE;
    }

    public int best(int k) {
        return hasLunch() && isWithin(k, 1, 2) ? cups.whereToLook(plate.cells, k) : NONE;
    }

    public int once(int k, int what) {
        if (!hasLunch() || k < 1 || k > MOST_PLATES || !isWithin(what, 0, 1)) {
            return NONE;
        }
        if (what == 0) {
            return ahead.tensTillSafe(plate, fullPower() / k);
        }
        int one = ahead.tensTillSafe(plate, fullPower());
        return one == NONE ? NONE : k * one;
    }

    public int order(int what) {
        if (!hasLunch() || !isWithin(what, 0, 1)) {
            return NONE;
        }
        kitchen.lunch.findOrder();
        return what == 0 ? kitchen.lunch.bestOrder : kitchen.lunch.bestMinded;
    }

    public int together(int k) {
        return hasLunch() && isWithin(k, 1, 2) ? kitchen.lunch.tensTogether(k) : NONE;
    }

    public int bite() {
        if (!hasLunch()) {
            return NONE;
        }
        int found = NONE;
        for (int cell = 0; cell < plate.cells; cell++) {
            if (plate.hasFood(cell) && (found == NONE || isColder(cell, found))) {
                found = cell;
            }
        }
        return found;
    }

    private boolean isColder(int cell, int other) {
        if (plate.ice[cell] != plate.ice[other]) {
            return plate.ice[cell] > plate.ice[other];
        }
        return plate.degrees[cell] < plate.degrees[other];
    }

    public int odds(int n, int chance) {
        if (!hasLunch() || !isWithin(n, 0, MOST_BY_ODDS) || !isWithin(chance, 0, 100)) {
            return NONE;
        }
        return ahead.partsSafe(plate, n, chance);
    }

    public int set(int cell, int d, boolean is) {
        if (!hasLunch() || !kitchen.lunch.told.hasFood(cell) || !isWithin(d, 0, MOST_DEGREES_SET)) {
            return NONE;
        }
        return settings.add(cell, d, is) ? settings.told : NONE;
    }

    public int how(int i) {
        return hasLunch() ? ahead.howSet(settings, i) : NONE;
    }

    // ---- the plate as it is

    public int mean() {
        return hasLunch() ? plate.meanDegrees() : NONE;
    }

    public int hottest() {
        if (!hasLunch()) {
            return NONE;
        }
        int found = NONE;
        for (int cell = 0; cell < plate.cells; cell++) {
            if (plate.hasFood(cell) && (found == NONE || plate.degrees[cell] > plate.degrees[found])) {
                found = cell;
            }
        }
        return found;
    }

    public int rim() {
        if (!hasLunch()) {
            return NONE;
        }
        int bits = 0;
        for (int cell = 0; cell < plate.cells; cell++) {
            if (plate.hasFood(cell) && kitchen.edges(plate, cell) >= 2) {
                bits |= 1 << cell;
            }
        }
        return bits;
    }

    public int lump() {
        if (!hasLunch()) {
            return NONE;
        }
        int bits = 0;
        for (int cell = 0; cell < MOST_CELLS; cell++) {
            if (plate.ice[cell] > 0) {
                bits |= 1 << cell;
            }
        }
        return bits;
    }

    public int joined(int cell) {
        return plate.hasFood(cell) ? kitchen.foodFrom(plate, cell) : NONE;
    }

    public int next(int cell, int power) {
        if (!plate.hasFood(cell) || !isPower(power)) {
            return NONE;
        }
        return ahead.behind(plate, 1, power).degrees[cell];
    }

    public int count(int what) {
        switch (what) {
            case 0:
                return plate.cells;
            case 1:
                return plate.foods();
            case 2:
                return kitchen.lunch.dishes;
            case 3:
                return lawCount;
            case 4:
                return tape.length;
            case 5:
                return lawHeld;
            case 6:
                return plate.ten;
            case 7:
                return plate.turns ? 1 : 0;
            case 8:
                return hasLunch() && kitchen.isSafe(plate) ? 1 : 0;
            case 9:
                return plate.burstOnes();
            case 10:
                return plate.iceOfAll();
            case 11:
                return kitchen.lunch.tensTogether(1);
            case 12:
                return stirsBelow;
            case 13:
                return cups.told;
            case 14:
                return settings.told;
            case 15:
                return logLength();
            case 16:
                return acts.kept;
            default:
                return HIDDEN;
        }
    }

    // ---- the classes inside

    /** The bytes that were fed, and where one reads. */
    private static final class Tape {
        /** No byte on the TAPE is 0, so 0 can stand for what is behind the last. */
        static final int BEHIND = 0;

        private final int[] bytes = new int[MOST_BYTES];
        int length;
        int at;

        void add(int number) {
            for (int shift = 24; shift >= 0; shift -= 8) {
                int sign = (number >>> shift) & 255;
                if (sign != 0 && length >= 0 && length < bytes.length) {
                    bytes[length] = sign;
                    length++;
                }
            }
        }

        private int here() {
            return at >= 0 && at < length && at < bytes.length ? bytes[at] : BEHIND;
        }

        /** The next sign; blanks ahead of it are passed. */
        int sign() {
            while (at < length && here() == ' ') {
                at++;
            }
            return here();
        }

        boolean signIsOneOf(String signs) {
            int sign = sign();
            return sign != BEHIND && signs.indexOf((char) sign) >= 0;
        }

        void pass() {
            if (at < length) {
                at++;
            }
        }

        /** Passes the sign if it is this one; otherwise stays at it. */
        boolean passes(char sign) {
            boolean is = sign() == sign;
            if (is) {
                at++;
            }
            return is;
        }

        private boolean isDigitHere() {
            return here() >= '0' && here() <= '9';
        }

        /** A number; NONE: there is none, or one digit too many; it stays at what is wrong then. */
        int number(int mostDigits) {
            sign();
            int number = 0;
            int digits = 0;
            while (digits < mostDigits && isDigitHere()) {
                number = number * 10 + here() - '0';
                digits++;
                at++;
            }
            return digits == 0 || isDigitHere() ? NONE : number;
        }
    }

    /** What a TEXT told: the oven, its places, the dishes, and the plate at first. */
    private static final class Lunch {
        final int[] oven = new int[6];
        final int[] share = new int[MOST_CELLS];
        private final int[] beside = new int[MOST_CELLS * SIDES];
        final int[] tens = new int[MOST_DISHES];
        final int[] minds = new int[MOST_DISHES];
        int dishes;
        final Plate told = new Plate();
        int bestOrder;
        int bestMinded;

        /** The CELLS and what is beside each are known only when the whole TEXT is. */
        void settle() {
            int width = oven[WIDTH];
            int height = oven[HEIGHT];
            told.cells = width * height;
            int cell = 0;
            for (int row = 0; row < height; row++) {
                for (int column = 0; column < width; column++) {
                    putBeside(cell, 0, row > 0 ? cell - width : NONE);
                    putBeside(cell, 1, column > 0 ? cell - 1 : NONE);
                    putBeside(cell, 2, column < width - 1 ? cell + 1 : NONE);
                    putBeside(cell, 3, row < height - 1 ? cell + width : NONE);
                    cell++;
                }
            }
        }

        private void putBeside(int cell, int side, int other) {
            int index = cell * SIDES + side;
            if (index >= 0 && index < beside.length) {
                beside[index] = other;
            }
        }

        /** NONE: no CELL on that side. */
        int cellBeside(int cell, int side) {
            int index = cell * SIDES + side;
            return index >= 0 && index < beside.length ? beside[index] : NONE;
        }

        int shareOf(int cell) {
            return cell >= 0 && cell < share.length ? share[cell] : 0;
        }

        boolean hasDish(int dish) {
            return dish >= 0 && dish < dishes && dish < MOST_DISHES;
        }

        void findOrder() {
            bestOrder = NONE;
            bestMinded = FAR;
            tryOrders(this, 0, 0, 0, 0, 0);
        }

        /** All orders that begin so, the least first; of several that are minded as little the first stays. */
        private static void tryOrders(Lunch lunch, int depth, int used, int order, int time, int minded) {
            if (depth >= lunch.dishes || depth >= MOST_DISHES) {
                if (minded < lunch.bestMinded) {
                    lunch.bestMinded = minded;
                    lunch.bestOrder = order;
                }
                return;
            }
            for (int dish = 0; dish < lunch.dishes && dish < MOST_DISHES; dish++) {
                if ((used & (1 << dish)) == 0) {
                    int done = time + lunch.tens[dish];
                    tryOrders(lunch, depth + 1, used | (1 << dish), order * 10 + dish, done,
                            minded + lunch.minds[dish] * done);
                }
            }
        }

        /** The fewest TENS of this many ovens: each way to share the dishes out is tried. */
        int tensTogether(int ovens) {
            int all = tensOf((1 << dishes) - 1);
            int fewest = all;
            for (int first = 0; ovens == 2 && first < (1 << dishes); first++) {
                int one = tensOf(first);
                fewest = Math.min(fewest, Math.max(one, all - one));
            }
            return fewest;
        }

        private int tensOf(int some) {
            int sum = 0;
            for (int dish = 0; dish < dishes && dish < MOST_DISHES; dish++) {
                if ((some & (1 << dish)) != 0) {
                    sum += tens[dish];
                }
            }
            return sum;
        }
    }

    /** Reads the TAPE as a LUNCH. */
    private static final class LunchReader {
        private static final String KINDS = "sfmd";
        private static final int OVEN = 0;
        private static final int FOOD = 1;
        private static final int PLACE = 2;
        private static final int[] MOST_OF_KIND = {1, 12, 6, 6};

        /** The ITEMS of all KINDS in one row: from which on those of a KIND stand, and up to which. */
        private static final String ITEMS = "whpsbactidcsnw";
        private static final int[] FIRST_ITEM = {0, 6, 10, 12, 14};
        private static final int[] LEAST = {1, 1, 1, 0, 50, 30, 0, 1, 0, 0, 0, 0, 1, 0};
        private static final int[] MOST = {5, 5, 9, 9, 99, 90, 24, 9, 99, 49, 24, 20, 30, 9};
        private static final int[] USUAL = {4, 4, 4, 2, 95, 70, 0, 3, 0, 10, 0, 3, 9, 1};
        private static final int USUAL_SHARE = 10;
        private static final int MOST_DIGITS = 2;

        private final Tape tape;
        Lunch lunch = new Lunch();
        private final int[] ofKind = new int[4];
        private final int[] values = new int[14];
        private final boolean[] given = new boolean[14];
        private final boolean[] placed = new boolean[MOST_CELLS];
        private boolean isTwice;
        private int furthest;

        LunchReader(Tape tape) {
            this.tape = tape;
        }

        /** The FAULT; where it is NONE, the LUNCH stands. */
        int read() {
            begin();
            boolean goesOn = true;
            for (int i = 0; goesOn && i < MOST_BYTES; i++) {
                if (!readClause()) {
                    return tape.at;
                }
                goesOn = tape.passes(';');
            }
            lunch.settle();
            boolean isWhole = ofKind[FOOD] > 0 && !isTwice && furthest < lunch.told.cells;
            return isWhole && tape.sign() == Tape.BEHIND ? NONE : tape.at;
        }

        private void begin() {
            tape.at = 0;
            isTwice = false;
            furthest = 0;
            for (int kind = 0; kind < ofKind.length; kind++) {
                ofKind[kind] = 0;
            }
            for (int cell = 0; cell < MOST_CELLS; cell++) {
                placed[cell] = false;
                lunch.share[cell] = USUAL_SHARE;
                lunch.told.clear(cell);
            }
            for (int what = 0; what < lunch.oven.length && what < USUAL.length; what++) {
                lunch.oven[what] = USUAL[what];
            }
            lunch.dishes = 0;
        }

        private boolean readClause() {
            int kind = tape.signIsOneOf(KINDS) ? KINDS.indexOf((char) tape.sign()) : NONE;
            if (kind < 0 || kind >= ofKind.length || ofKind[kind] >= MOST_OF_KIND[kind]) {
                return false;
            }
            tape.pass();
            ofKind[kind]++;
            int first = FIRST_ITEM[kind];
            int end = FIRST_ITEM[kind + 1];
            for (int item = first; item < end; item++) {
                values[item] = USUAL[item];
                given[item] = false;
            }
            for (int i = first; i <= end; i++) {
                if (tape.sign() == ';' || tape.sign() == Tape.BEHIND) {
                    take(kind);
                    return true;
                }
                if (!readItem(first, end)) {
                    return false;
                }
            }
            return false;
        }

        private boolean readItem(int first, int end) {
            int item = itemAt(first, end);
            if (item == NONE || given[item]) {
                return false;
            }
            tape.pass();
            given[item] = true;
            int number = tape.number(MOST_DIGITS);
            if (number == NONE) {
                return false;
            }
            if (number < LEAST[item] || number > MOST[item]) {
                tape.at--;
                return false;
            }
            values[item] = number;
            return true;
        }

        private int itemAt(int first, int end) {
            int sign = tape.sign();
            for (int item = first; item < end && item < ITEMS.length() && item < given.length; item++) {
                if (ITEMS.charAt(item) == sign) {
                    return item;
                }
            }
            return NONE;
        }

        private void take(int kind) {
            if (kind == OVEN) {
                for (int what = 0; what < lunch.oven.length && what < values.length; what++) {
                    lunch.oven[what] = values[what];
                }
            } else if (kind == FOOD) {
                takeFood(values[6], values[7], values[8], values[9]);
            } else if (kind == PLACE) {
                takePlace(values[10], values[11]);
            } else if (lunch.dishes >= 0 && lunch.dishes < MOST_DISHES) {
                lunch.tens[lunch.dishes] = values[12];
                lunch.minds[lunch.dishes] = values[13];
                lunch.dishes++;
            }
        }

        private void takeFood(int cell, int thick, int ice, int degrees) {
            if (cell < 0 || cell >= MOST_CELLS) {
                return;
            }
            isTwice = isTwice || lunch.told.thick[cell] > 0;
            furthest = Math.max(furthest, cell);
            lunch.told.thick[cell] = thick;
            lunch.told.ice[cell] = ice;
            lunch.told.degrees[cell] = degrees;
        }

        private void takePlace(int cell, int share) {
            if (cell < 0 || cell >= MOST_CELLS) {
                return;
            }
            isTwice = isTwice || placed[cell];
            furthest = Math.max(furthest, cell);
            placed[cell] = true;
            lunch.share[cell] = share;
        }
    }

    /**
     * A LAW as signs in the order in which they are reckoned: a number as itself, all others as their byte below 0;
     * ; ends a CLAUSE, ? ends its CONDITION.
     */
    private static final class Law {
        static final String LETTERS = "pmtide";
        private static final int MOST_NUMBER = 1000000;

        private final int[] signs = new int[MOST_BYTES];
        private int length;
        private final int[] stack = new int[64];
        private int top;

        void forget() {
            length = 0;
        }

        void add(int sign) {
            if (length >= 0 && length < signs.length) {
                signs[length] = sign;
                length++;
            }
        }

        void become(Law other) {
            System.arraycopy(other.signs, 0, signs, 0, MOST_BYTES);
            length = other.length;
        }

        private void push(int number) {
            if (top >= 0 && top < stack.length) {
                stack[top] = number;
                top++;
            }
        }

        private int pop() {
            if (top <= 0 || top > stack.length) {
                return 0;
            }
            top--;
            return stack[top];
        }

        /** The WORTH by what the LETTERS stand for. */
        int worth(int[] letters) {
            top = 0;
            boolean skips = false;
            for (int i = 0; i < length && i < signs.length; i++) {
                int sign = -signs[i];
                if (skips) {
                    skips = sign != ';';
                } else if (sign == ';') {
                    return pop();
                } else if (sign == '?') {
                    skips = pop() == 0;
                } else if (sign == '!') {
                    push(pop() == 0 ? 1 : 0);
                } else if (sign <= 0) {
                    push(-sign);
                } else {
                    int letter = LETTERS.indexOf((char) sign);
                    push(letter >= 0 && letter < letters.length ? letters[letter] : reckon(sign, pop(), pop()));
                }
            }
            return 0;
        }

        private static int reckon(int sign, int right, int left) {
            long number = 0;
            switch (sign) {
                case '+':
                    number = (long) left + right;
                    break;
                case '-':
                    number = (long) left - right;
                    break;
                case '*':
                    number = (long) left * right;
                    break;
                case '/':
                    number = right == 0 ? 0 : left / right;
                    break;
                case '=':
                    return left == right ? 1 : 0;
                case '<':
                    return left < right ? 1 : 0;
                case '>':
                    return left > right ? 1 : 0;
                case '&':
                    return left & right;
                case '|':
                    return left | right;
                default:
                    return 0;
            }
            return (int) Math.max(-MOST_NUMBER, Math.min(MOST_NUMBER, number));
        }
    }

    /** Reads the TAPE as a LAW; each part answers whether it stands, else the TAPE stays at what is wrong. */
    private static final class LawReader {
        private static final int DEEPEST = 6;
        private static final int MOST_DIGITS = 4;
        private static final String COMPARES = "=<>";

        private final Tape tape;
        final Law law = new Law();

        LawReader(Tape tape) {
            this.tape = tape;
        }

        /** The FAULT; where it is NONE, the LAW stands. */
        int read() {
            tape.at = 0;
            law.forget();
            boolean goesOn = true;
            for (int i = 0; goesOn && i < MOST_BYTES; i++) {
                if (!readClause()) {
                    return tape.at;
                }
                goesOn = tape.passes(';');
            }
            return tape.sign() == Tape.BEHIND ? NONE : tape.at;
        }

        private boolean readClause() {
            if (!tape.passes('y') || !tape.passes(':')) {
                return false;
            }
            boolean isCondition = tape.signIsOneOf("!(");
            boolean stands = isCondition ? condition(this, 0, false) : sum(this, 0);
            if (stands && !isCondition && tape.signIsOneOf(COMPARES)) {
                isCondition = true;
                stands = condition(this, 0, true);
            }
            if (stands && isCondition) {
                stands = tape.passes('?');
                law.add(-'?');
                stands = stands && sum(this, 0);
            }
            law.add(-';');
            return stands;
        }

        /** The first SUM of a CLAUSE may turn out to begin a CONDITION: hasSum tells that it was read. */
        private static boolean condition(LawReader reader, int depth, boolean hasSum) {
            boolean stands = truth(reader, depth, hasSum);
            for (int i = 0; stands && i < MOST_BYTES && reader.tape.passes('|'); i++) {
                stands = truth(reader, depth, false);
                reader.law.add(-'|');
            }
            return stands;
        }

        private static boolean truth(LawReader reader, int depth, boolean hasSum) {
            boolean stands = hasSum ? compare(reader, depth) : unit(reader, depth);
            for (int i = 0; stands && i < MOST_BYTES && reader.tape.passes('&'); i++) {
                stands = unit(reader, depth);
                reader.law.add(-'&');
            }
            return stands;
        }

        private static boolean unit(LawReader reader, int depth) {
            Tape tape = reader.tape;
            boolean isNot = tape.sign() == '!';
            if (!isNot && tape.sign() != '(') {
                return sum(reader, depth) && compare(reader, depth);
            }
            if (depth >= DEEPEST) {
                return false;
            }
            tape.pass();
            if (!isNot) {
                return condition(reader, depth + 1, false) && tape.passes(')');
            }
            boolean stands = unit(reader, depth + 1);
            reader.law.add(-'!');
            return stands;
        }

        private static boolean compare(LawReader reader, int depth) {
            int sign = reader.tape.sign();
            if (!reader.tape.signIsOneOf(COMPARES)) {
                return false;
            }
            reader.tape.pass();
            boolean stands = sum(reader, depth);
            reader.law.add(-sign);
            return stands;
        }

        private static boolean sum(LawReader reader, int depth) {
            boolean stands = term(reader, depth);
            for (int i = 0; stands && i < MOST_BYTES && reader.tape.signIsOneOf("+-"); i++) {
                int sign = reader.tape.sign();
                reader.tape.pass();
                stands = term(reader, depth);
                reader.law.add(-sign);
            }
            return stands;
        }

        private static boolean term(LawReader reader, int depth) {
            boolean stands = atom(reader, depth);
            for (int i = 0; stands && i < MOST_BYTES && reader.tape.signIsOneOf("*/"); i++) {
                int sign = reader.tape.sign();
                reader.tape.pass();
                stands = atom(reader, depth);
                reader.law.add(-sign);
            }
            return stands;
        }

        private static boolean atom(LawReader reader, int depth) {
            Tape tape = reader.tape;
            if (tape.sign() == '[') {
                if (depth >= DEEPEST) {
                    return false;
                }
                tape.pass();
                return sum(reader, depth + 1) && tape.passes(']');
            }
            if (tape.signIsOneOf(Law.LETTERS)) {
                reader.law.add(-tape.sign());
                tape.pass();
                return true;
            }
            int number = tape.number(MOST_DIGITS);
            if (number != NONE) {
                reader.law.add(number);
            }
            return number != NONE;
        }
    }

    /** The plate at one time; a CELL without FOOD has THICK 0, and 0 of all else. */
    private static final class Plate {
        final int[] thick = new int[MOST_CELLS];
        final int[] ice = new int[MOST_CELLS];
        final int[] degrees = new int[MOST_CELLS];
        /** 1: it has BURST. */
        final int[] burst = new int[MOST_CELLS];
        /** 0: there is no LUNCH. */
        int cells;
        int ten;
        boolean turns;

        void become(Plate other) {
            System.arraycopy(other.thick, 0, thick, 0, MOST_CELLS);
            System.arraycopy(other.ice, 0, ice, 0, MOST_CELLS);
            System.arraycopy(other.degrees, 0, degrees, 0, MOST_CELLS);
            System.arraycopy(other.burst, 0, burst, 0, MOST_CELLS);
            cells = other.cells;
            ten = other.ten;
            turns = other.turns;
        }

        boolean hasFood(int cell) {
            return cell >= 0 && cell < cells && cell < MOST_CELLS && thick[cell] > 0;
        }

        void clear(int cell) {
            if (cell >= 0 && cell < MOST_CELLS) {
                thick[cell] = 0;
                ice[cell] = 0;
                degrees[cell] = 0;
                burst[cell] = 0;
            }
        }

        /** FOOD goes to another CELL; where it is its own already, it stays. */
        void shift(int cell, int other) {
            if (!hasFood(cell) || other < 0 || other >= cells || hasFood(other)) {
                return;
            }
            thick[other] = thick[cell];
            ice[other] = ice[cell];
            degrees[other] = degrees[cell];
            burst[other] = burst[cell];
            clear(cell);
        }

        int foods() {
            int sum = 0;
            for (int cell = 0; cell < MOST_CELLS; cell++) {
                sum += thick[cell] > 0 ? 1 : 0;
            }
            return sum;
        }

        int burstOnes() {
            int sum = 0;
            for (int cell = 0; cell < MOST_CELLS; cell++) {
                sum += burst[cell];
            }
            return sum;
        }

        int iceOfAll() {
            int sum = 0;
            for (int cell = 0; cell < MOST_CELLS; cell++) {
                sum += ice[cell];
            }
            return sum;
        }

        int meanDegrees() {
            int sum = 0;
            for (int cell = 0; cell < MOST_CELLS; cell++) {
                sum += degrees[cell];
            }
            int foods = foods();
            return foods == 0 ? 0 : sum / foods;
        }

        void mix() {
            int foods = foods();
            int meanIce = foods == 0 ? 0 : iceOfAll() / foods;
            int meanDegrees = meanDegrees();
            for (int cell = 0; cell < MOST_CELLS; cell++) {
                if (thick[cell] > 0) {
                    ice[cell] = meanIce;
                    degrees[cell] = meanDegrees;
                }
            }
        }

        int leastDegrees() {
            int least = FAR;
            for (int cell = 0; cell < MOST_CELLS; cell++) {
                if (thick[cell] > 0) {
                    least = Math.min(least, degrees[cell]);
                }
            }
            return least;
        }

        int leastLessIce() {
            int least = FAR;
            for (int cell = 0; cell < MOST_CELLS; cell++) {
                if (thick[cell] > 0) {
                    least = Math.min(least, degrees[cell] - ice[cell]);
                }
            }
            return least;
        }

        /** How many DEGREES the warmest has more than the coldest. */
        int apart() {
            int most = 0;
            for (int cell = 0; cell < MOST_CELLS; cell++) {
                if (thick[cell] > 0) {
                    most = Math.max(most, degrees[cell]);
                }
            }
            return most - leastDegrees();
        }
    }

    /** The oven at work: what a TEN does to a plate, by the LUNCH and the LAW that holds. */
    private static final class Kitchen {
        private static final int MOST_GAIN = 99;

        Lunch lunch = new Lunch();
        /** null: none holds. */
        Law law;
        /** What the letters of a LAW stand for, in the order of Law.LETTERS. */
        private final int[] letters = new int[6];
        private final int[] flow = new int[MOST_CELLS];

        int edges(Plate plate, int cell) {
            int edges = 0;
            for (int side = 0; side < SIDES; side++) {
                if (!plate.hasFood(lunch.cellBeside(cell, side))) {
                    edges++;
                }
            }
            return edges;
        }

        boolean isSafe(Plate plate) {
            for (int cell = 0; cell < plate.cells && cell < MOST_CELLS; cell++) {
                if (plate.thick[cell] > 0 && (plate.ice[cell] > 0 || plate.degrees[cell] < lunch.oven[SAFE])) {
                    return false;
                }
            }
            return true;
        }

        /** One TEN; how many BURST in it. */
        int passTen(Plate plate, int power) {
            if (power > 0) {
                warm(plate, power);
            }
            spreadOut(plate);
            int burst = burst(plate);
            plate.ten++;
            return burst;
        }

        /** What FOOD gets hangs on no other FOOD's DEGREES or ICE, so each can take it at once. */
        private void warm(Plate plate, int power) {
            boolean isOpposite = plate.turns && (plate.ten & 1) == 1;
            for (int cell = 0; cell < plate.cells && cell < MOST_CELLS; cell++) {
                if (plate.thick[cell] > 0) {
                    letters[0] = power;
                    letters[1] = lunch.shareOf(isOpposite ? plate.cells - 1 - cell : cell);
                    letters[2] = plate.thick[cell];
                    letters[3] = plate.ice[cell];
                    letters[4] = plate.degrees[cell];
                    letters[5] = edges(plate, cell);
                    int worth = law == null ? usualWorth() : law.worth(letters);
                    int gain = Math.max(0, Math.min(MOST_GAIN, worth));
                    if (plate.ice[cell] > 0) {
                        plate.ice[cell] = Math.max(0, plate.ice[cell] - gain / 2);
                    } else {
                        plate.degrees[cell] += gain;
                    }
                }
            }
        }

        private int usualWorth() {
            return letters[0] * letters[1] / 10 + letters[5] - letters[2] / 4;
        }

        /** All FOOD at once: what flows to each is known of all before one takes it. */
        private void spreadOut(Plate plate) {
            for (int cell = 0; cell < plate.cells && cell < MOST_CELLS; cell++) {
                flow[cell] = plate.thick[cell] > 0 ? flowTo(plate, cell) : 0;
            }
            for (int cell = 0; cell < plate.cells && cell < MOST_CELLS; cell++) {
                if (plate.ice[cell] > 0) {
                    plate.ice[cell] = Math.max(0, plate.ice[cell] - Math.max(0, flow[cell]));
                } else {
                    plate.degrees[cell] = Math.max(0, plate.degrees[cell] + flow[cell]);
                }
            }
        }

        private int flowTo(Plate plate, int cell) {
            int sum = 0;
            for (int side = 0; side < SIDES; side++) {
                int other = lunch.cellBeside(cell, side);
                if (plate.hasFood(other)) {
                    sum += (plate.degrees[other] - plate.degrees[cell]) * lunch.oven[SPREAD] / 20;
                }
            }
            return sum;
        }

        private int burst(Plate plate) {
            int sum = 0;
            for (int cell = 0; cell < plate.cells && cell < MOST_CELLS; cell++) {
                if (plate.thick[cell] > 0 && plate.degrees[cell] >= lunch.oven[BURSTS]) {
                    plate.burst[cell] = 1;
                    plate.degrees[cell] = lunch.oven[BURSTS] - 10;
                    sum++;
                }
            }
            return sum;
        }

        /** The CELLS, as bits, to which FOOD leads from this one. */
        int foodFrom(Plate plate, int cell) {
            int bits = 1 << cell;
            int before = 0;
            for (int i = 0; i < MOST_CELLS && bits != before; i++) {
                before = bits;
                for (int other = 0; other < plate.cells && other < MOST_CELLS; other++) {
                    if (plate.hasFood(other) && isBeside(other, bits)) {
                        bits |= 1 << other;
                    }
                }
            }
            return bits;
        }

        private boolean isBeside(int cell, int bits) {
            for (int side = 0; side < SIDES; side++) {
                int other = lunch.cellBeside(cell, side);
                if (other >= 0 && (bits & (1 << other)) != 0) {
                    return true;
                }
            }
            return false;
        }
    }

    /** POWER, least DEGREES and how many BURST, of the latest TENS. */
    private static final class Log {
        /** As many as are told, and as many as ACTS undone can bring back. */
        private static final int KEPT = MOST_LOGGED + MOST_ACTS;

        private final int[] powers = new int[KEPT];
        private final int[] leasts = new int[KEPT];
        private final int[] bursts = new int[KEPT];

        void write(int ten, int power, int least, int burst) {
            int row = Math.floorMod(ten, KEPT);
            powers[row] = power;
            leasts[row] = least;
            bursts[row] = burst;
        }

        int entry(int ten, int what) {
            int row = Math.floorMod(ten, KEPT);
            switch (what) {
                case 0:
                    return powers[row];
                case 1:
                    return leasts[row];
                case 2:
                    return bursts[row];
                default:
                    return NONE;
            }
        }

        void become(Log other) {
            System.arraycopy(other.powers, 0, powers, 0, KEPT);
            System.arraycopy(other.leasts, 0, leasts, 0, KEPT);
            System.arraycopy(other.bursts, 0, bursts, 0, KEPT);
        }
    }

    /** The plate as it was ahead of each of the latest ACTS. */
    private static final class Acts {
        private final Plate[] before = new Plate[MOST_ACTS];
        private int free;
        int kept;

        Acts() {
            for (int i = 0; i < before.length; i++) {
                before[i] = new Plate();
            }
        }

        void forget() {
            kept = 0;
        }

        void keep(Plate plate) {
            Plate old = free >= 0 && free < before.length ? before[free] : null;
            if (old != null) {
                old.become(plate);
                free = (free + 1) % MOST_ACTS;
                kept = Math.min(kept + 1, MOST_ACTS);
            }
        }

        void takeBack(Plate plate) {
            int latest = Math.floorMod(free - 1, MOST_ACTS);
            Plate old = before[latest];
            if (kept > 0 && old != null) {
                plate.become(old);
                free = latest;
                kept--;
            }
        }
    }

    /** What was told of CELLS one by one: of cups that got warm or not, of DEGREES that a CELL has or not. */
    private static final class Notes {
        private final int[] cells = new int[MOST_NOTES];
        private final int[] degrees = new int[MOST_NOTES];
        private final boolean[] holds = new boolean[MOST_NOTES];
        private final int[] inSets = new int[MOST_CELLS];
        int told;

        void forget() {
            told = 0;
        }

        boolean add(int cell, int least, boolean is) {
            if (told < 0 || told >= MOST_NOTES) {
                return false;
            }
            cells[told] = cell;
            degrees[told] = least;
            holds[told] = is;
            told++;
            return true;
        }

        /** Whether each CELL has the DEGREES told of it, or has not, as told. */
        boolean isSo(Plate plate) {
            for (int i = 0; i < told && i < MOST_NOTES; i++) {
                int cell = cells[i];
                if (plate.hasFood(cell) && (plate.degrees[cell] >= degrees[i]) != holds[i]) {
                    return false;
                }
            }
            return true;
        }

        /** Whether all cups got warm or not as they would with these weak CELLS. */
        private boolean isSoWith(int weakOnes) {
            for (int i = 0; i < told && i < MOST_NOTES; i++) {
                boolean isWeak = (weakOnes & (1 << cells[i])) != 0;
                if (isWeak == holds[i]) {
                    return false;
                }
            }
            return true;
        }

        /** The i-th set of k weak CELLS that fits, or how many do (i NONE): then inSets has how many have each CELL. */
        int weakCells(int cellsInAll, int k, int i) {
            int found = 0;
            for (int cell = 0; cell < MOST_CELLS; cell++) {
                inSets[cell] = 0;
            }
            for (int high = 0; high < cellsInAll && high < MOST_CELLS; high++) {
                int first = k == 1 ? high : 0;
                int last = k == 1 ? high : high - 1;
                for (int low = first; low <= last; low++) {
                    int bits = (1 << high) | (1 << low);
                    if (isSoWith(bits)) {
                        if (found == i) {
                            return bits;
                        }
                        found++;
                        inSets[high]++;
                        inSets[low] += k - 1;
                    }
                }
            }
            return i == NONE ? found : NONE;
        }

        /** The CELL that halves what fits best. */
        int whereToLook(int cellsInAll, int k) {
            int all = weakCells(cellsInAll, k, NONE);
            int found = NONE;
            int least = FAR;
            for (int cell = 0; all > 0 && cell < cellsInAll && cell < MOST_CELLS; cell++) {
                int apart = Math.abs(all - 2 * inSets[cell]);
                if (apart < least) {
                    least = apart;
                    found = cell;
                }
            }
            return found;
        }
    }

    /** What would be, on plates of its own. */
    private static final class Ahead {
        private static final int WAYS = 3;
        private static final int FULL_TEN = 1;
        private static final int STIRRED_TEN = 2;
        private static final int ALL_PARTS = 1000000000;

        private final Kitchen kitchen;
        private final Plate spare = new Plate();
        /** One for each TEN of a way that is tried, the plate as it is now first. */
        private final Plate[] plates = new Plate[MOST_BY_ODDS + 1];
        int rowTens;
        int row;

        Ahead(Kitchen kitchen) {
            this.kitchen = kitchen;
            for (int i = 0; i < plates.length; i++) {
                plates[i] = new Plate();
            }
        }

        /** The plate behind so many TENS; it is good until the next is asked for. */
        Plate behind(Plate now, int n, int power) {
            spare.become(now);
            for (int i = 0; i < n && i < MOST_COOKED; i++) {
                kitchen.passTen(spare, power);
            }
            return spare;
        }

        int tensTillSafe(Plate now, int power) {
            spare.become(now);
            for (int tens = 0; tens < MOST_COOKED; tens++) {
                if (kitchen.isSafe(spare)) {
                    return tens;
                }
                kitchen.passTen(spare, power);
            }
            return kitchen.isSafe(spare) ? MOST_COOKED : NONE;
        }

        private Plate plateAt(int depth) {
            Plate found = depth >= 0 && depth < plates.length ? plates[depth] : null;
            return found == null ? spare : found;
        }

        /** Whether a row by the ways from this one on is SAFE; the shortest, and the least of it, stays in row. */
        boolean findRow(Plate now, int firstWay) {
            plateAt(0).become(now);
            for (int tens = 0; tens <= MOST_IN_ROW; tens++) {
                int found = rowFrom(this, 0, tens, firstWay);
                if (found != NONE) {
                    rowTens = tens;
                    row = found;
                    return true;
                }
            }
            return false;
        }

        /** The least row of just so many TENS, as it goes on behind those already done. */
        private static int rowFrom(Ahead ahead, int depth, int tens, int firstWay) {
            Plate now = ahead.plateAt(depth);
            if (depth >= tens || depth >= MOST_IN_ROW) {
                return ahead.kitchen.isSafe(now) ? 0 : NONE;
            }
            Plate then = ahead.plateAt(depth + 1);
            int worth = 1;
            for (int i = depth + 1; i < tens; i++) {
                worth *= 10;
            }
            for (int way = firstWay; way < WAYS; way++) {
                then.become(now);
                if (way == STIRRED_TEN) {
                    then.mix();
                }
                int power = way == FULL_TEN ? ahead.kitchen.lunch.oven[FULL] : 0;
                int burst = ahead.kitchen.passTen(then, power);
                int rest = burst > 0 ? NONE : rowFrom(ahead, depth + 1, tens, firstWay);
                if (rest != NONE) {
                    return way * worth + rest;
                }
            }
            return NONE;
        }

        /** Of its own CELL and those without FOOD the one in which it gets warmest. */
        int bestPlace(Plate now, int cell, int n) {
            Plate from = plateAt(0);
            int found = NONE;
            int most = -FAR;
            for (int other = 0; other < now.cells && other < MOST_CELLS; other++) {
                if (other == cell || !now.hasFood(other)) {
                    from.become(now);
                    from.shift(cell, other);
                    Plate then = behind(from, n, kitchen.lunch.oven[FULL]);
                    int warmth = then.degrees[other] - then.ice[other];
                    if (warmth > most) {
                        most = warmth;
                        found = other;
                    }
                }
            }
            return found;
        }

        int leastBehind(Plate now, int n, boolean turns) {
            Plate from = plateAt(0);
            from.become(now);
            from.turns = turns;
            return behind(from, n, kitchen.lunch.oven[FULL]).leastLessIce();
        }

        int partsSafe(Plate now, int n, int chance) {
            plateAt(0).become(now);
            return partsFrom(this, 0, n, chance, ALL_PARTS);
        }

        /** How many of these parts are SAFE at the end; ways that have none need not be gone. */
        private static int partsFrom(Ahead ahead, int depth, int n, int chance, int parts) {
            Plate now = ahead.plateAt(depth);
            if (depth >= n || depth >= MOST_BY_ODDS) {
                return ahead.kitchen.isSafe(now) ? parts : 0;
            }
            Plate then = ahead.plateAt(depth + 1);
            int power = ahead.kitchen.lunch.oven[FULL];
            int stirred = (int) ((long) parts * chance / 100);
            int sum = 0;
            if (stirred > 0) {
                then.become(now);
                then.mix();
                ahead.kitchen.passTen(then, power);
                sum += partsFrom(ahead, depth + 1, n, chance, stirred);
            }
            if (parts > stirred) {
                then.become(now);
                ahead.kitchen.passTen(then, power);
                sum += partsFrom(ahead, depth + 1, n, chance, parts - stirred);
            }
            return sum;
        }

        /** The i-th POWER and TENS by which all that was SET is so, or how many there are (i NONE). */
        int howSet(Notes settings, int i) {
            int found = 0;
            for (int power = 1; power <= kitchen.lunch.oven[FULL]; power++) {
                spare.become(kitchen.lunch.told);
                for (int tens = 1; tens <= MOST_TRIED; tens++) {
                    kitchen.passTen(spare, power);
                    if (settings.isSo(spare)) {
                        if (found == i) {
                            return 100 * power + tens;
                        }
                        found++;
                    }
                }
            }
            return i == NONE ? found : NONE;
        }
    }
}

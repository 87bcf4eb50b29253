import java.util.ArrayList;
import java.util.List;
import java.util.NoSuchElementException;
import java.util.Random;

/** Runs of calls by fixed seeds, each made of the program and of the model; their answers must be the same. */
public final class ModelTest {
    private static int wrong = 0;
    private static final int MOST_WRONG = 20;
    /** Behind these, what an object answers is free. */
    private static final int MOST_CALLS = 512;

    private final Random random;
    private final ColdMiddle x = new ColdMiddle();
    private final Model y = new Model();
    private final List<String> calls = new ArrayList<>();
    private final int run;

    private ModelTest(int run) {
        this.run = run;
        this.random = new Random(run);
    }

    public static void main(String[] args) {
        for (int run = 0; run < 60000; run++) {
            new ModelTest(run).faults();
        }
        for (int run = 0; run < 300; run++) {
            new ModelTest(run).play();
        }
        new ModelTest(1000000).toTheLastTen();
        if (wrong > 0) {
            System.out.println(wrong + " answers are not as the model's");
            System.exit(1);
        }
    }

    private void same(String call, long got, long want) {
        calls.add(call + " = " + got);
        if (got != want) {
            wrong++;
            if (wrong <= MOST_WRONG) {
                System.out.println("run " + run + ": " + call + " answered " + got + ", the model " + want + "; " + y);
                int from = Math.max(0, calls.size() - 12);
                System.out.println("    " + String.join("; ", calls.subList(from, calls.size())));
            }
        }
    }

    private int any(int least, int most) {
        return least + random.nextInt(most - least + 1);
    }

    private boolean by(int percent) {
        return random.nextInt(100) < percent;
    }

    /** Mostly within bounds, now and then just out of them or far from them. */
    private int near(int least, int most) {
        if (by(4)) {
            int[] far = {least - 1, most + 1, Integer.MIN_VALUE, Integer.MAX_VALUE, -1, 0};
            return far[random.nextInt(far.length)];
        }
        return any(least, most);
    }

    // ---- texts

    private String blanks() {
        return by(6) ? " ".repeat(any(1, 2)) : "";
    }

    private void put(StringBuilder s, Object... signs) {
        for (Object sign : signs) {
            s.append(blanks()).append(sign);
        }
    }

    private void item(StringBuilder s, String letter, int least, int most, int percent) {
        if (by(percent)) {
            put(s, letter, by(1) ? any(0, 120) : any(least, most));
        }
    }

    private String lunch() {
        List<String> clauses = new ArrayList<>();
        int width = any(1, 5);
        int height = any(1, 5);
        boolean hasOven = by(85);
        int cells = hasOven ? width * height : 16;
        if (hasOven) {
            StringBuilder s = new StringBuilder();
            put(s, "s", "w", width, "h", height);
            item(s, "p", 1, 9, 60);
            item(s, "s", 0, 9, 60);
            item(s, "b", 50, 99, 60);
            item(s, "a", 30, by(50) ? 45 : 90, 70);
            clauses.add(s.toString());
        }
        List<Integer> free = new ArrayList<>();
        for (int cell = 0; cell < cells; cell++) {
            free.add(cell);
        }
        for (int i = any(1, Math.min(by(30) ? 12 : 5, cells)); i > 0; i--) {
            StringBuilder s = new StringBuilder();
            int cell = free.remove(random.nextInt(free.size()));
            put(s, "f", "c", by(1) ? any(0, 25) : cell);
            item(s, "t", 1, 9, 50);
            item(s, "i", 0, by(50) ? 9 : 99, 40);
            item(s, "d", 0, 49, 70);
            clauses.add(s.toString());
        }
        for (int i = by(50) ? 0 : any(1, 3); i > 0; i--) {
            StringBuilder s = new StringBuilder();
            put(s, "m", "c", (i * 7 + run) % cells);
            item(s, "s", 0, 20, 80);
            clauses.add(s.toString());
        }
        for (int i = by(50) ? 0 : any(1, by(1) ? 7 : 6); i > 0; i--) {
            StringBuilder s = new StringBuilder("d");
            item(s, "n", 1, 30, 80);
            item(s, "w", 0, 9, 80);
            clauses.add(s.toString());
        }
        java.util.Collections.shuffle(clauses, random);
        return String.join(blanks() + ";", clauses) + blanks();
    }

    private String sum(int depth) {
        StringBuilder s = new StringBuilder();
        put(s, term(depth));
        while (by(35)) {
            put(s, by(50) ? "+" : "-", term(depth));
        }
        return s.toString();
    }

    private String term(int depth) {
        StringBuilder s = new StringBuilder();
        put(s, atom(depth));
        while (by(30)) {
            put(s, by(50) ? "*" : "/", atom(depth));
        }
        return s.toString();
    }

    private String atom(int depth) {
        if (depth > 0 && by(20)) {
            return "[" + sum(depth - 1) + blanks() + "]";
        }
        return by(60) ? "" + "pmtide".charAt(random.nextInt(6)) : "" + (by(20) ? any(0, 9999) : any(0, 20));
    }

    private String condition(int depth) {
        StringBuilder s = new StringBuilder();
        put(s, unit(depth));
        while (by(30)) {
            put(s, by(50) ? "|" : "&", unit(depth));
        }
        return s.toString();
    }

    private String unit(int depth) {
        if (depth > 0 && by(25)) {
            return "!" + blanks() + unit(depth - 1);
        }
        if (depth > 0 && by(25)) {
            return "(" + condition(depth - 1) + blanks() + ")";
        }
        return sum(Math.min(depth, 2)) + blanks() + "=<>".charAt(random.nextInt(3)) + sum(Math.min(depth, 2));
    }

    private String law() {
        StringBuilder s = new StringBuilder();
        for (int clauses = any(1, 3); clauses > 0; clauses--) {
            put(s, "y", ":");
            if (by(60)) {
                put(s, condition(by(10) ? 7 : 3), "?");
            }
            put(s, sum(by(10) ? 7 : 3));
            if (clauses > 1) {
                put(s, ";");
            }
        }
        return s.toString();
    }

    private String spoiled(String text) {
        StringBuilder s = new StringBuilder(text);
        String signs = "sfmdwhpbactinyetide:;?!([])=<>+-*/&|0123456789 x\u00e9";
        for (int i = any(1, 3); i > 0; i--) {
            int at = any(0, s.length());
            String sign = "" + signs.charAt(random.nextInt(signs.length()));
            if (by(40)) {
                s.insert(at, sign);
            } else if (at < s.length()) {
                s.replace(at, at + 1, by(50) ? "" : sign);
            }
        }
        return s.toString();
    }

    // ---- calls

    private void feed(int a, int b, int c, int d, int e) {
        same("feed(" + a + "," + b + "," + c + "," + d + "," + e + ")", x.feed(a, b, c, d, e), y.feed(a, b, c, d, e));
    }

    private void write(String text) {
        int[] five = new int[5];
        for (int from = 0; from < text.length(); from += 20) {
            for (int i = 0; i < 5; i++) {
                five[i] = 0;
                for (int k = 0; k < 4; k++) {
                    int at = from + 4 * i + k;
                    five[i] = five[i] << 8 | (at < text.length() ? text.charAt(at) : 0);
                }
            }
            feed(five[0], five[1], five[2], five[3], five[4]);
        }
    }

    private void end(int n) {
        same("end(" + n + ")", x.end(n) ? 1 : 0, y.end(n) ? 1 : 0);
    }

    private void fault(int sort) {
        same("fault(" + sort + ")", x.fault(sort), y.fault(sort));
    }

    private void text(int sort) {
        same("text(" + sort + ")", x.text(sort), y.text(sort));
    }

    private void faults() {
        int sort = any(0, 1);
        String text = sort == 0 ? lunch() : law();
        write(by(70) ? spoiled(text) : text);
        fault(sort);
        if (by(10)) {
            end(any(0, 30));
            fault(sort);
            fault(near(0, 1));
        }
    }

    private void tellLunch() {
        end(0);
        String text = lunch();
        write(by(5) ? spoiled(text) : text);
        fault(0);
        text(0);
    }

    private void tellLaw() {
        end(0);
        String text = law();
        write(by(5) ? spoiled(text) : text);
        fault(1);
        text(1);
        int law = near(-1, 3);
        same("law(" + law + ")", x.law(law) ? 1 : 0, y.law(law) ? 1 : 0);
    }

    private int cell() {
        return by(4) ? near(0, 24) : any(0, Math.max(0, y.cells() - 1));
    }

    private int foodCell() {
        if (y.now == null || by(10)) {
            return cell();
        }
        List<Integer> cells = new ArrayList<>(y.now.foods.keySet());
        return cells.get(random.nextInt(cells.size()));
    }

    private int power() {
        return near(0, y.oven == null ? 9 : y.o('p'));
    }

    private int tens(int most) {
        return by(75) ? any(1, Math.min(5, most)) : near(0, most);
    }

    private void spots() {
        for (int what = -1; what <= 6; what++) {
            int cell = cell();
            Integer want = y.spot(cell, what);
            try {
                int got = x.spot(cell, what);
                same("spot(" + cell + "," + what + ")", got, want == null ? -99 : want);
            } catch (NoSuchElementException e) {
                same("spot(" + cell + "," + what + ") throws", 1, want == null ? 1 : 0);
            }
        }
    }

    private void looks() {
        for (int what = -1; what <= 17; what++) {
            same("count(" + what + ")", x.count(what), y.count(what));
        }
        for (int what = -1; what <= 6; what++) {
            same("oven(" + what + ")", x.oven(what), y.oven(what));
            same("status(" + what + ")", x.status(what), y.status(what));
            int dish = near(0, 5);
            same("dish(" + dish + "," + what + ")", x.dish(dish, what), y.dish(dish, what));
            int i = what == 0 ? near(0, 60) : near(0, 3);
            same("log(" + i + "," + what + ")", x.log(i, what), y.log(i, what));
        }
    }

    private void acts() {
        int a = foodCell();
        int b = cell();
        int n = tens(60);
        int p = power();
        boolean is = by(50);
        switch (any(0, 7)) {
            case 0, 1 -> same("cook(" + n + "," + p + ")", x.cook(n, p), y.cook(n, p));
            case 2 -> same("stir()", x.stir(), y.stir());
            case 3 -> same("turn(" + is + ")", x.turn(is) ? 1 : 0, y.turn(is) ? 1 : 0);
            case 4 -> same("move(" + a + "," + b + ")", x.move(a, b), y.move(a, b));
            case 5 -> {
                if (by(30)) {
                    same("eat(" + a + ")", x.eat(a), y.eat(a));
                }
            }
            case 6 -> {
                long seed = random.nextLong();
                same("habits(" + n + "," + seed + ")", x.habits(n, seed), y.habits(n, seed));
            }
            default -> {
                int v = near(0, 9);
                same("stirs(" + v + ")", x.stirs(v) ? 1 : 0, y.stirs(v) ? 1 : 0);
            }
        }
    }

    private void goBack() {
        switch (any(0, 5)) {
            case 0 -> same("image()", x.image(), y.image());
            case 1 -> {
                if (by(40)) {
                    same("back()", x.back(), y.back());
                }
            }
            default -> {
                for (int i = by(90) ? 1 : any(20, 45); i > 0; i--) {
                    same("undo()", x.undo(), y.undo());
                }
            }
        }
    }

    private void questions() {
        int a = foodCell();
        int p = power();
        int n = tens(20);
        int k = near(1, 2);
        switch (any(0, 15)) {
            case 0 -> same("span(" + p + ")", x.span(p), y.span(p));
            case 1 -> {
                if (by(15)) {
                    int what = near(0, 1);
                    same("soonest(" + what + ")", x.soonest(what), y.soonest(what));
                    same("without()", x.without(), y.without());
                }
            }
            case 2 -> {
                int many = near(0, 60);
                same("heats(" + a + "," + many + "," + p + ")", x.heats(a, many, p), y.heats(a, many, p));
            }
            case 3 -> same("place(" + a + "," + n + ")", x.place(a, n), y.place(a, n));
            case 4 -> same("turning(" + n + ")", x.turning(n), y.turning(n));
            case 5 -> same("runs(" + n + "," + p + ")", x.runs(n, p), y.runs(n, p));
            case 6 -> {
                int cell = cell();
                boolean warm = by(75);
                same("tell(" + cell + "," + warm + ")", x.tell(cell, warm), y.tell(cell, warm));
            }
            case 7 -> weak(k);
            case 8 -> {
                int many = near(1, 4);
                int what = near(0, 1);
                same("once(" + many + "," + what + ")", x.once(many, what), y.once(many, what));
            }
            case 9 -> {
                int what = near(0, 1);
                same("order(" + what + ")", x.order(what), y.order(what));
                same("together(" + k + ")", x.together(k), y.together(k));
            }
            case 10 -> {
                int many = by(60) ? any(0, 4) : near(0, 8);
                int chance = near(0, 100);
                same("odds(" + many + "," + chance + ")", x.odds(many, chance), y.odds(many, chance));
            }
            case 11 -> {
                int d = near(0, 99);
                boolean is = by(50);
                if (by(40)) {
                    same("set(" + a + "," + d + "," + is + ")", x.set(a, d, is), y.set(a, d, is));
                }
            }
            case 12 -> {
                int many = x.how(-1);
                same("how(-1)", many, y.how(-1));
                int i = near(-1, many + 1);
                same("how(" + i + ")", x.how(i), y.how(i));
            }
            case 13 -> same("next(" + a + "," + p + ")", x.next(a, p), y.next(a, p));
            default -> nows(a);
        }
    }

    private void weak(int k) {
        int many = x.weak(k, -1);
        same("weak(" + k + ",-1)", many, y.weak(k, -1));
        int i = near(-1, Math.max(1, many + 1));
        same("weak(" + k + "," + i + ")", x.weak(k, i), y.weak(k, i));
        same("best(" + k + ")", x.best(k), y.best(k));
    }

    private void nows(int cell) {
        same("bite()", x.bite(), y.bite());
        same("mean()", x.mean(), y.mean());
        same("hottest()", x.hottest(), y.hottest());
        same("rim()", x.rim(), y.rim());
        same("lump()", x.lump(), y.lump());
        same("joined(" + cell + ")", x.joined(cell), y.joined(cell));
    }

    private void play() {
        if (by(90)) {
            tellLunch();
        }
        // A step makes fifty calls at most, and the last look sixty.
        while (calls.size() < MOST_CALLS - 110) {
            int what = random.nextInt(100);
            if (what < 2) {
                tellLunch();
            } else if (what < 5) {
                tellLaw();
            } else if (what < 12) {
                spots();
            } else if (what < 14) {
                looks();
            } else if (what < 17) {
                goBack();
            } else if (what < 45) {
                acts();
            } else {
                questions();
            }
        }
        looks();
        spots();
    }

    /** Up to the TEN behind which none goes by, and what is found apart there. */
    private void toTheLastTen() {
        write("sw2h1b60a30;f;fc1i99;mc1s0");
        text(0);
        same("turn(true)", x.turn(true) ? 1 : 0, y.turn(true) ? 1 : 0);
        for (int i = 0; i < 167; i++) {
            same("cook(60," + i % 5 + ")", x.cook(60, i % 5), y.cook(60, i % 5));
        }
        same("habits(60,1)", x.habits(60, 1), y.habits(60, 1));
        same("cook(39,4)", x.cook(39, 4), y.cook(39, 4));
        same("cook(39,4)", x.cook(39, 4), y.cook(39, 4));
        same("cook(1,4)", x.cook(1, 4), y.cook(1, 4));
        same("cook(0,4)", x.cook(0, 4), y.cook(0, 4));
        same("habits(1,1)", x.habits(1, 1), y.habits(1, 1));
        looks();
        same("turning(20)", x.turning(20), y.turning(20));
        same("heats(0,60,4)", x.heats(0, 60, 4), y.heats(0, 60, 4));
        same("next(0,4)", x.next(0, 4), y.next(0, 4));
        same("undo()", x.undo(), y.undo());
        same("cook(1,4)", x.cook(1, 4), y.cook(1, 4));
        looks();
    }
}

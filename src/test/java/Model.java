import java.util.ArrayList;
import java.util.Arrays;
import java.util.HashMap;
import java.util.HashSet;
import java.util.List;
import java.util.Map;
import java.util.Set;
import java.util.TreeMap;
import java.util.TreeSet;

/**
 * The document told a second time, in the plainest way and with the whole Java library: every question is answered
 * by trying everything. The program is held against it.
 */
final class Model {
    static final int NONE = -1;
    static final int HIDDEN = -1000000;

    /** The plate at a time: CELL to {THICK, ICE, DEGREES, BURST}, whether it turns, the TEN, the LOG (oldest first). */
    static final class State {
        TreeMap<Integer, int[]> foods = new TreeMap<>();
        boolean turns;
        int ten;
        List<int[]> log = new ArrayList<>();

        State copy() {
            State s = bare();
            s.log = new ArrayList<>(log);
            return s;
        }

        State bare() {
            State s = new State();
            foods.forEach((cell, food) -> s.foods.put(cell, food.clone()));
            s.turns = turns;
            s.ten = ten;
            return s;
        }
    }

    String tape = "";
    Map<Character, Integer> oven;
    Map<Integer, Integer> places;
    List<int[]> dishes = new ArrayList<>();
    State told;
    State now;
    State image;
    List<State> acts = new ArrayList<>();
    List<String> laws = new ArrayList<>();
    int held = NONE;
    int stirs = 0;
    int[] status = new int[4];
    List<int[]> cups = new ArrayList<>();
    List<int[]> sets = new ArrayList<>();

    // ---- TEXTS

    private static final Map<Character, String> ITEMS = Map.of('s', "whpsba", 'f', "ctid", 'm', "cs", 'd', "nw");
    private static final Map<String, int[]> BOUNDS = new HashMap<>();
    private static final Map<Character, Integer> MOST = Map.of('s', 1, 'f', 12, 'm', 6, 'd', 6);

    static {
        BOUNDS.put("sw", new int[] {1, 5, 4});
        BOUNDS.put("sh", new int[] {1, 5, 4});
        BOUNDS.put("sp", new int[] {1, 9, 4});
        BOUNDS.put("ss", new int[] {0, 9, 2});
        BOUNDS.put("sb", new int[] {50, 99, 95});
        BOUNDS.put("sa", new int[] {30, 90, 70});
        BOUNDS.put("fc", new int[] {0, 24, 0});
        BOUNDS.put("ft", new int[] {1, 9, 3});
        BOUNDS.put("fi", new int[] {0, 99, 0});
        BOUNDS.put("fd", new int[] {0, 49, 10});
        BOUNDS.put("mc", new int[] {0, 24, 0});
        BOUNDS.put("ms", new int[] {0, 20, 3});
        BOUNDS.put("dn", new int[] {1, 30, 9});
        BOUNDS.put("dw", new int[] {0, 9, 1});
    }

    private static boolean digit(String s, int i) {
        return i < s.length() && Character.isDigit(s.charAt(i)) && s.charAt(i) < 128;
    }

    /** The clauses of a LUNCH: kind to what was told; null with fault[0] set. */
    static List<Map<Character, Integer>> lunchClauses(String s, int[] fault) {
        List<Map<Character, Integer>> clauses = new ArrayList<>();
        Map<Character, Integer> counts = new HashMap<>();
        Map<Character, Integer> clause = null;
        Set<Character> had = new HashSet<>();
        char kind = 0;
        char item = 0;
        int due = 0;
        for (int i = 0; i < s.length(); i++) {
            char c = s.charAt(i);
            fault[0] = i;
            if (c == ' ') {
                continue;
            }
            if (due == 0) {
                if (!ITEMS.containsKey(c) || counts.merge(c, 1, Integer::sum) > MOST.get(c)) {
                    return null;
                }
                kind = c;
                had.clear();
                clause = new HashMap<>();
                clause.put('?', (int) kind);
                for (char letter : ITEMS.get(kind).toCharArray()) {
                    clause.put(letter, BOUNDS.get("" + kind + letter)[2]);
                }
                clauses.add(clause);
                due = 1;
            } else if (due == 1) {
                if (c == ';') {
                    due = 0;
                } else if (ITEMS.get(kind).indexOf(c) < 0 || !had.add(c)) {
                    return null;
                } else {
                    item = c;
                    due = 2;
                }
            } else {
                if (!digit(s, i)) {
                    return null;
                }
                int last = digit(s, i + 1) ? i + 1 : i;
                if (digit(s, last + 1)) {
                    fault[0] = i + 2;
                    return null;
                }
                int value = Integer.parseInt(s.substring(i, last + 1));
                int[] bounds = BOUNDS.get("" + kind + item);
                if (value < bounds[0] || value > bounds[1]) {
                    fault[0] = last;
                    return null;
                }
                clause.put(item, value);
                i = last;
                due = 1;
            }
        }
        fault[0] = s.length();
        if (due != 1) {
            return null;
        }
        int cells = 16;
        for (Map<Character, Integer> one : clauses) {
            if (one.get('?') == 's') {
                cells = one.get('w') * one.get('h');
            }
        }
        Set<Integer> foodAt = new HashSet<>();
        Set<Integer> placeAt = new HashSet<>();
        for (Map<Character, Integer> one : clauses) {
            int k = one.get('?');
            if ((k == 'f' || k == 'm') && (one.get('c') >= cells || !(k == 'f' ? foodAt : placeAt).add(one.get('c')))) {
                return null;
            }
        }
        if (foodAt.isEmpty()) {
            return null;
        }
        fault[0] = NONE;
        return clauses;
    }

    /** A LAW tried in every way its grammar tells; the furthest sign that none can take is the FAULT. */
    static final class Grammar {
        final String s;
        int furthest = 0;

        Grammar(String s) {
            this.s = s;
        }

        int skip(int i) {
            while (i < s.length() && s.charAt(i) == ' ') {
                i++;
            }
            return i;
        }

        Set<Integer> sign(Set<Integer> from, String signs) {
            Set<Integer> to = new TreeSet<>();
            for (int i : from) {
                int j = skip(i);
                furthest = Math.max(furthest, j);
                if (j < s.length() && signs.indexOf(s.charAt(j)) >= 0) {
                    to.add(j + 1);
                }
            }
            return to;
        }

        static Set<Integer> both(Set<Integer> a, Set<Integer> b) {
            Set<Integer> all = new TreeSet<>(a);
            all.addAll(b);
            return all;
        }

        Set<Integer> number(Set<Integer> from) {
            Set<Integer> to = new TreeSet<>();
            for (int i : from) {
                int j = skip(i);
                furthest = Math.max(furthest, j);
                for (int n = 0; n < 4 && digit(s, j + n); n++) {
                    furthest = Math.max(furthest, j + n + 1);
                    to.add(j + n + 1);
                }
            }
            // A number is whole: it does not end ahead of a digit of its own.
            to.removeIf(e -> digit(s, e));
            return to;
        }

        Set<Integer> atom(Set<Integer> from, int depth) {
            if (from.isEmpty()) {
                return from;
            }
            Set<Integer> all = both(number(from), sign(from, "pmtide"));
            if (depth < 6) {
                all = both(all, sign(sum(sign(from, "["), depth + 1), "]"));
            }
            return all;
        }

        Set<Integer> term(Set<Integer> from, int depth) {
            Set<Integer> all = new TreeSet<>();
            for (Set<Integer> to = atom(from, depth); !to.isEmpty(); to = atom(sign(to, "*/"), depth)) {
                all.addAll(to);
            }
            return all;
        }

        Set<Integer> sum(Set<Integer> from, int depth) {
            Set<Integer> all = new TreeSet<>();
            for (Set<Integer> to = term(from, depth); !to.isEmpty(); to = term(sign(to, "+-"), depth)) {
                all.addAll(to);
            }
            return all;
        }

        Set<Integer> unit(Set<Integer> from, int depth) {
            if (from.isEmpty()) {
                return from;
            }
            Set<Integer> all = sum(sign(sum(from, depth), "=<>"), depth);
            if (depth < 6) {
                all = both(all, unit(sign(from, "!"), depth + 1));
                all = both(all, sign(condition(sign(from, "("), depth + 1), ")"));
            }
            return all;
        }

        Set<Integer> truth(Set<Integer> from, int depth) {
            Set<Integer> all = new TreeSet<>();
            for (Set<Integer> to = unit(from, depth); !to.isEmpty(); to = unit(sign(to, "&"), depth)) {
                all.addAll(to);
            }
            return all;
        }

        Set<Integer> condition(Set<Integer> from, int depth) {
            Set<Integer> all = new TreeSet<>();
            if (from.isEmpty()) {
                return all;
            }
            for (Set<Integer> to = truth(from, depth); !to.isEmpty(); to = truth(sign(to, "|"), depth)) {
                all.addAll(to);
            }
            return all;
        }

        int fault() {
            Set<Integer> from = new TreeSet<>(Set.of(0));
            for (int clauses = 0; clauses < 240 && !from.isEmpty(); clauses++) {
                Set<Integer> head = sign(sign(from, "y"), ":");
                Set<Integer> to = both(sum(head, 0), sum(sign(condition(head, 0), "?"), 0));
                for (int i : to) {
                    if (skip(i) == s.length()) {
                        return NONE;
                    }
                }
                from = sign(to, ";");
            }
            return furthest;
        }
    }

    static int lawFault(String s) {
        return new Grammar(s).fault();
    }

    // ---- WORTH: the text without blanks, taken apart at its last signs

    private static int lastOf(String s, String signs) {
        int depth = 0;
        for (int i = s.length() - 1; i >= 0; i--) {
            char c = s.charAt(i);
            if (c == ']' || c == ')') {
                depth++;
            } else if (c == '[' || c == '(') {
                depth--;
            } else if (depth == 0 && signs.indexOf(c) >= 0) {
                return i;
            }
        }
        return -1;
    }

    private static long reckon(String s, Map<Character, Integer> letters) {
        int at = lastOf(s, "+-");
        if (at < 0) {
            at = lastOf(s, "*/");
        }
        if (at >= 0) {
            long a = reckon(s.substring(0, at), letters);
            long b = reckon(s.substring(at + 1), letters);
            char sign = s.charAt(at);
            long c = sign == '+' ? a + b : sign == '-' ? a - b : sign == '*' ? a * b : b == 0 ? 0 : a / b;
            return Math.max(-1000000, Math.min(1000000, c));
        }
        if (s.startsWith("[")) {
            return reckon(s.substring(1, s.length() - 1), letters);
        }
        return letters.containsKey(s.charAt(0)) ? letters.get(s.charAt(0)) : Integer.parseInt(s);
    }

    private static boolean holds(String s, Map<Character, Integer> letters) {
        int at = lastOf(s, "|");
        if (at >= 0) {
            return holds(s.substring(0, at), letters) | holds(s.substring(at + 1), letters);
        }
        at = lastOf(s, "&");
        if (at >= 0) {
            return holds(s.substring(0, at), letters) & holds(s.substring(at + 1), letters);
        }
        if (s.startsWith("!")) {
            return !holds(s.substring(1), letters);
        }
        if (s.startsWith("(")) {
            return holds(s.substring(1, s.length() - 1), letters);
        }
        at = lastOf(s, "=<>");
        long a = reckon(s.substring(0, at), letters);
        long b = reckon(s.substring(at + 1), letters);
        return s.charAt(at) == '=' ? a == b : s.charAt(at) == '<' ? a < b : a > b;
    }

    static long worth(String law, Map<Character, Integer> letters) {
        for (String clause : law.split(";")) {
            String body = clause.substring(2);
            int mark = body.indexOf('?');
            if (mark < 0 || holds(body.substring(0, mark), letters)) {
                return reckon(body.substring(mark + 1), letters);
            }
        }
        return 0;
    }

    // ---- a TEN

    int o(char what) {
        return oven.get(what);
    }

    int cells() {
        return oven == null ? 0 : o('w') * o('h');
    }

    boolean isCell(int cell) {
        return cell >= 0 && cell < cells();
    }

    List<Integer> beside(int cell) {
        List<Integer> all = new ArrayList<>();
        for (int other = 0; other < cells(); other++) {
            int rows = Math.abs(other / o('w') - cell / o('w'));
            int columns = Math.abs(other % o('w') - cell % o('w'));
            if (rows + columns == 1) {
                all.add(other);
            }
        }
        return all;
    }

    int edges(State s, int cell) {
        int n = 4;
        for (int other : beside(cell)) {
            n -= s.foods.containsKey(other) ? 1 : 0;
        }
        return n;
    }

    int share(int cell) {
        return places.getOrDefault(cell, 10);
    }

    int gain(State s, int cell, int power) {
        int[] food = s.foods.get(cell);
        int share = share(s.turns && s.ten % 2 != 0 ? cells() - 1 - cell : cell);
        long worth;
        if (held == NONE) {
            worth = power * share / 10 + edges(s, cell) - food[0] / 4;
        } else {
            worth = worth(laws.get(held), Map.of('p', power, 'm', share, 't', food[0], 'i', food[1], 'd', food[2],
                    'e', edges(s, cell)));
        }
        return (int) Math.max(0, Math.min(99, worth));
    }

    /** One TEN; how many BURST in it. */
    int ten(State s, int power) {
        State before = s.bare();
        if (power > 0) {
            for (int cell : s.foods.keySet()) {
                int gain = gain(before, cell, power);
                int[] food = s.foods.get(cell);
                if (food[1] > 0) {
                    food[1] = Math.max(0, food[1] - gain / 2);
                } else {
                    food[2] += gain;
                }
            }
        }
        State warm = s.bare();
        for (int cell : s.foods.keySet()) {
            int flow = 0;
            for (int other : beside(cell)) {
                if (warm.foods.containsKey(other)) {
                    flow += (warm.foods.get(other)[2] - warm.foods.get(cell)[2]) * o('s') / 20;
                }
            }
            int[] food = s.foods.get(cell);
            if (food[1] > 0) {
                food[1] = flow > 0 ? Math.max(0, food[1] - flow) : food[1];
            } else {
                food[2] = Math.max(0, food[2] + flow);
            }
        }
        int burst = 0;
        for (int[] food : s.foods.values()) {
            if (food[2] >= o('b')) {
                food[3] = 1;
                food[2] = o('b') - 10;
                burst++;
            }
        }
        s.ten++;
        return burst;
    }

    void mix(State s) {
        int ice = 0;
        int degrees = 0;
        for (int[] food : s.foods.values()) {
            ice += food[1];
            degrees += food[2];
        }
        for (int[] food : s.foods.values()) {
            food[1] = ice / s.foods.size();
            food[2] = degrees / s.foods.size();
        }
    }

    boolean safe(State s) {
        return s.foods.values().stream().allMatch(food -> food[1] == 0 && food[2] >= o('a'));
    }

    static int least(State s) {
        return s.foods.values().stream().mapToInt(food -> food[2]).min().orElse(0);
    }

    static int most(State s) {
        return s.foods.values().stream().mapToInt(food -> food[2]).max().orElse(0);
    }

    State after(State from, int n, int power) {
        State s = from.bare();
        for (int i = 0; i < n; i++) {
            ten(s, power);
        }
        return s;
    }

    // ---- the face

    int feed(int a, int b, int c, int d, int e) {
        StringBuilder more = new StringBuilder(tape);
        for (int number : new int[] {a, b, c, d, e}) {
            for (int i = 3; i >= 0; i--) {
                int sign = number >> 8 * i & 255;
                if (sign != 0) {
                    more.append((char) sign);
                }
            }
        }
        if (more.length() > 240) {
            return NONE;
        }
        tape = more.toString();
        return tape.length();
    }

    boolean end(int n) {
        if (n < 0 || n > tape.length()) {
            return false;
        }
        tape = tape.substring(0, n);
        return true;
    }

    int fault(int sort) {
        int[] fault = new int[1];
        if (sort == 0) {
            lunchClauses(tape, fault);
            return fault[0];
        }
        return sort == 1 ? lawFault(tape) : -2;
    }

    int text(int sort) {
        if ((sort != 0 && sort != 1) || fault(sort) != NONE || (sort == 1 && laws.size() == 4)) {
            return NONE;
        }
        if (sort == 1) {
            laws.add(tape.replace(" ", ""));
            tape = "";
            return laws.size() - 1;
        }
        List<Map<Character, Integer>> clauses = lunchClauses(tape, new int[1]);
        tape = "";
        oven = new HashMap<>(Map.of('w', 4, 'h', 4, 'p', 4, 's', 2, 'b', 95, 'a', 70));
        places = new HashMap<>();
        dishes = new ArrayList<>();
        told = new State();
        for (Map<Character, Integer> clause : clauses) {
            switch ((char) (int) clause.get('?')) {
                case 's' -> oven = clause;
                case 'f' -> told.foods.put(clause.get('c'),
                        new int[] {clause.get('t'), clause.get('i'), clause.get('d'), 0});
                case 'm' -> places.put(clause.get('c'), clause.get('s'));
                default -> dishes.add(new int[] {clause.get('n'), clause.get('w')});
            }
        }
        now = told.copy();
        image = null;
        acts.clear();
        cups.clear();
        sets.clear();
        return now.foods.size();
    }

    boolean lunch() {
        return now != null;
    }

    boolean food(int cell) {
        return lunch() && now.foods.containsKey(cell);
    }

    boolean power(int power) {
        return power >= 0 && power <= o('p');
    }

    int oven(int what) {
        return !lunch() || what < 0 || what > 5 ? NONE : o("whpsba".charAt(what));
    }

    /** null: it throws. */
    Integer spot(int cell, int what) {
        if (!isCell(cell) || what < 0 || what > 5) {
            return null;
        }
        if (what == 0) {
            return share(cell);
        }
        if (!food(cell)) {
            return 0;
        }
        int[] f = now.foods.get(cell);
        return new int[] {0, f[0], f[1], f[2], edges(now, cell), f[3]}[what];
    }

    int dish(int dish, int what) {
        return dish < 0 || dish >= dishes.size() || what < 0 || what > 1 ? NONE : dishes.get(dish)[what];
    }

    boolean law(int law) {
        if (law < NONE || law >= laws.size()) {
            return false;
        }
        held = law;
        return true;
    }

    void keep() {
        acts.add(now.copy());
        if (acts.size() > 40) {
            acts.remove(0);
        }
    }

    void tenByHand(int power) {
        int burst = ten(now, power);
        now.log.add(new int[] {power, least(now), burst});
    }

    int refused(int why) {
        status[why]++;
        return NONE;
    }

    int cook(int n, int power) {
        if (!lunch()) {
            return refused(0);
        }
        if (n < 1 || n > 60 || !power(power)) {
            return refused(1);
        }
        if (now.ten + n > 9999) {
            return refused(3);
        }
        for (int i = 0; i < n; i++) {
            keep();
            tenByHand(power);
        }
        return now.ten;
    }

    int stir() {
        if (!lunch()) {
            return refused(0);
        }
        keep();
        mix(now);
        return now.foods.firstEntry().getValue()[2];
    }

    boolean turn(boolean is) {
        if (!lunch() || now.turns == is) {
            refused(lunch() ? 2 : 0);
            return false;
        }
        keep();
        now.turns = is;
        return true;
    }

    int move(int cell, int other) {
        if (!isCell(cell) || !isCell(other) || !food(cell)) {
            return refused(0);
        }
        if (food(other)) {
            return refused(2);
        }
        keep();
        now.foods.put(other, now.foods.remove(cell));
        return edges(now, other);
    }

    int eat(int cell) {
        if (!food(cell)) {
            return refused(0);
        }
        if (now.foods.size() == 1) {
            return refused(3);
        }
        keep();
        int[] f = now.foods.remove(cell);
        return f[1] > 0 ? 0 : f[3] > 0 ? 3 : f[2] < o('a') ? 1 : 2;
    }

    boolean stirs(int v) {
        if (v < 0 || v > 9 || v == stirs) {
            return false;
        }
        stirs = v;
        return true;
    }

    private long x;

    private int draw(int k) {
        x = x * 6364136223846793005L + 1442695040888963407L;
        return (int) ((x >>> 33) % k);
    }

    int habits(int n, long seed) {
        if (!lunch() || n < 1 || n > 60 || now.ten + n > 9999) {
            return NONE;
        }
        x = seed;
        for (int i = 0; i < n; i++) {
            keep();
            if (draw(10) < stirs) {
                mix(now);
            }
            tenByHand(draw(o('p') + 1));
        }
        return now.ten;
    }

    int status(int what) {
        return what < 0 || what > 3 ? NONE : status[what];
    }

    int undo() {
        if (acts.isEmpty()) {
            return NONE;
        }
        now = acts.remove(acts.size() - 1);
        return acts.size();
    }

    int logLength() {
        return lunch() ? Math.min(60, now.log.size()) : 0;
    }

    int log(int i, int what) {
        if (i < 0 || i >= logLength() || what < 0 || what > 2) {
            return NONE;
        }
        return now.log.get(now.log.size() - 1 - i)[what];
    }

    int span(int power) {
        if (!lunch() || !power(power)) {
            return NONE;
        }
        return length(power);
    }

    int length(int power) {
        for (int n = 0; n <= 60; n++) {
            if (safe(after(now, n, power))) {
                return n;
            }
        }
        return NONE;
    }

    /** All rows of n TENS by these digits, least first; the first that does. */
    Integer row(int n, String digits) {
        int[] index = new int[n];
        while (true) {
            State s = now.bare();
            int burst = 0;
            int row = 0;
            for (int i = 0; i < n; i++) {
                char c = digits.charAt(index[i]);
                if (c == '2') {
                    mix(s);
                }
                burst += ten(s, c == '1' ? o('p') : 0);
                row = row * 10 + c - '0';
            }
            if (burst == 0 && safe(s)) {
                return row;
            }
            int i = n - 1;
            while (i >= 0 && index[i] == digits.length() - 1) {
                index[i--] = 0;
            }
            if (i < 0) {
                return null;
            }
            index[i]++;
        }
    }

    int soonest(int what) {
        if (!lunch() || what < 0 || what > 1) {
            return NONE;
        }
        for (int n = 0; n <= 6; n++) {
            Integer row = row(n, "012");
            if (row != null) {
                return what == 0 ? n : row;
            }
        }
        return NONE;
    }

    int without() {
        for (int n = 0; lunch() && n <= 6; n++) {
            if (row(n, "12") != null) {
                return n;
            }
        }
        return NONE;
    }

    int heats(int cell, int n, int power) {
        return !food(cell) || n < 0 || n > 60 || !power(power) ? NONE : after(now, n, power).foods.get(cell)[2];
    }

    int place(int cell, int n) {
        if (!food(cell) || n < 1 || n > 20) {
            return NONE;
        }
        TreeMap<Integer, Integer> lowest = new TreeMap<>();
        for (int other = 0; other < cells(); other++) {
            if (other == cell || !food(other)) {
                State s = now.bare();
                s.foods.put(other, s.foods.remove(cell));
                int[] f = after(s, n, o('p')).foods.get(other);
                lowest.putIfAbsent(f[2] - f[1], other);
            }
        }
        return lowest.lastEntry().getValue();
    }

    int turning(int n) {
        if (!lunch() || n < 1 || n > 20) {
            return HIDDEN;
        }
        int[] least = new int[2];
        for (int turns = 0; turns < 2; turns++) {
            State s = now.bare();
            s.turns = turns == 1;
            least[turns] = after(s, n, o('p')).foods.values().stream().mapToInt(f -> f[2] - f[1]).min().orElse(0);
        }
        return least[1] - least[0];
    }

    int runs(int n, int power) {
        if (!lunch() || n < 1 || n > 20 || !power(power)) {
            return HIDDEN;
        }
        State then = after(now, n, power);
        return most(then) - least(then) - (most(now) - least(now));
    }

    int tell(int cell, boolean warm) {
        if (!isCell(cell) || cups.size() == 10) {
            return NONE;
        }
        cups.add(new int[] {cell, warm ? 1 : 0});
        return cups.size();
    }

    List<Integer> weakSets(int k) {
        TreeSet<Integer> all = new TreeSet<>();
        for (int one = 0; one < cells(); one++) {
            for (int other = 0; other < cells(); other++) {
                int set = 1 << one | 1 << other;
                if (Integer.bitCount(set) == k && cups.stream().allMatch(cup -> (set >> cup[0] & 1) == 1 - cup[1])) {
                    all.add(set);
                }
            }
        }
        return new ArrayList<>(all);
    }

    int weak(int k, int i) {
        if (!lunch() || k < 1 || k > 2) {
            return NONE;
        }
        List<Integer> all = weakSets(k);
        return i == NONE ? all.size() : i < 0 || i >= all.size() ? NONE : all.get(i);
    }

    int best(int k) {
        if (!lunch() || k < 1 || k > 2) {
            return NONE;
        }
        List<Integer> all = weakSets(k);
        TreeMap<Integer, Integer> lowest = new TreeMap<>();
        for (int cell = 0; cell < cells(); cell++) {
            int bit = cell;
            int yes = (int) all.stream().filter(set -> (set >> bit & 1) == 1).count();
            lowest.putIfAbsent(Math.abs(yes - (all.size() - yes)), cell);
        }
        return all.isEmpty() ? NONE : lowest.firstEntry().getValue();
    }

    int once(int k, int what) {
        if (!lunch() || k < 1 || k > 4 || what < 0 || what > 1) {
            return NONE;
        }
        int length = length(what == 0 ? o('p') / k : o('p'));
        return length == NONE ? NONE : what == 0 ? length : k * length;
    }

    void orders(List<Integer> order, List<int[]> found) {
        if (order.size() == dishes.size()) {
            int digits = 0;
            int time = 0;
            int minded = 0;
            for (int dish : order) {
                digits = digits * 10 + dish;
                time += dishes.get(dish)[0];
                minded += time * dishes.get(dish)[1];
            }
            found.add(new int[] {minded, digits});
        }
        for (int dish = 0; dish < dishes.size(); dish++) {
            if (!order.contains(dish)) {
                List<Integer> longer = new ArrayList<>(order);
                longer.add(dish);
                orders(longer, found);
            }
        }
    }

    int order(int what) {
        if (!lunch() || what < 0 || what > 1) {
            return NONE;
        }
        List<int[]> found = new ArrayList<>();
        orders(new ArrayList<>(), found);
        found.sort((a, b) -> a[0] != b[0] ? a[0] - b[0] : a[1] - b[1]);
        return found.get(0)[1 - what];
    }

    int waits() {
        return dishes.stream().mapToInt(dish -> dish[0]).sum();
    }

    int together(int k) {
        if (!lunch() || k < 1 || k > 2) {
            return NONE;
        }
        if (k == 1) {
            return waits();
        }
        int least = Integer.MAX_VALUE;
        for (int set = 0; set < 1 << dishes.size(); set++) {
            int[] sums = new int[2];
            for (int i = 0; i < dishes.size(); i++) {
                sums[set >> i & 1] += dishes.get(i)[0];
            }
            least = Math.min(least, Math.max(sums[0], sums[1]));
        }
        return least;
    }

    int bite() {
        if (!lunch()) {
            return NONE;
        }
        return now.foods.entrySet().stream().sorted((a, b) -> {
            int[] f = a.getValue();
            int[] g = b.getValue();
            return f[1] != g[1] ? g[1] - f[1] : f[2] != g[2] ? f[2] - g[2] : a.getKey() - b.getKey();
        }).findFirst().get().getKey();
    }

    int odds(int n, int chance) {
        if (!lunch() || n < 0 || n > 8 || chance < 0 || chance > 100) {
            return NONE;
        }
        long sum = 0;
        for (int way = 0; way < 1 << n; way++) {
            State s = now.bare();
            long parts = 1000000000;
            for (int i = 0; i < n; i++) {
                long stirred = parts * chance / 100;
                boolean is = (way >> i & 1) == 1;
                parts = is ? stirred : parts - stirred;
                if (is) {
                    mix(s);
                }
                ten(s, o('p'));
            }
            sum += safe(s) ? parts : 0;
        }
        return (int) sum;
    }

    int set(int cell, int d, boolean is) {
        if (!lunch() || !told.foods.containsKey(cell) || d < 0 || d > 99 || sets.size() == 10) {
            return NONE;
        }
        sets.add(new int[] {cell, d, is ? 1 : 0});
        return sets.size();
    }

    int how(int i) {
        if (!lunch()) {
            return NONE;
        }
        List<Integer> all = new ArrayList<>();
        for (int power = 1; power <= o('p'); power++) {
            for (int n = 1; n <= 20; n++) {
                State s = after(told, n, power);
                if (sets.stream().allMatch(set -> (s.foods.get(set[0])[2] >= set[1] ? 1 : 0) == set[2])) {
                    all.add(100 * power + n);
                }
            }
        }
        return i == NONE ? all.size() : i < 0 || i >= all.size() ? NONE : all.get(i);
    }

    int mean() {
        return lunch() ? now.foods.values().stream().mapToInt(f -> f[2]).sum() / now.foods.size() : NONE;
    }

    int hottest() {
        for (int cell = 0; cell < cells(); cell++) {
            if (food(cell) && now.foods.get(cell)[2] == most(now)) {
                return cell;
            }
        }
        return NONE;
    }

    int rim() {
        return lunch() ? now.foods.keySet().stream().filter(c -> edges(now, c) >= 2).mapToInt(c -> 1 << c).sum() : NONE;
    }

    int lump() {
        return lunch() ? now.foods.keySet().stream().filter(c -> now.foods.get(c)[1] > 0).mapToInt(c -> 1 << c).sum()
                : NONE;
    }

    int joined(int cell) {
        if (!food(cell)) {
            return NONE;
        }
        TreeSet<Integer> found = new TreeSet<>(Set.of(cell));
        List<Integer> open = new ArrayList<>(found);
        while (!open.isEmpty()) {
            for (int other : beside(open.remove(0))) {
                if (food(other) && found.add(other)) {
                    open.add(other);
                }
            }
        }
        return found.stream().mapToInt(c -> 1 << c).sum();
    }

    int next(int cell, int power) {
        return !food(cell) || !power(power) ? NONE : after(now, 1, power).foods.get(cell)[2];
    }

    int image() {
        if (!lunch()) {
            return NONE;
        }
        image = now.copy();
        return image.ten;
    }

    int back() {
        if (image == null) {
            return NONE;
        }
        now = image.copy();
        acts.clear();
        return now.ten;
    }

    int count(int what) {
        int[] all = {
            cells(), lunch() ? now.foods.size() : 0, dishes.size(), laws.size(), tape.length(), held,
            lunch() ? now.ten : 0, lunch() && now.turns ? 1 : 0, lunch() && safe(now) ? 1 : 0,
            lunch() ? now.foods.values().stream().mapToInt(f -> f[3]).sum() : 0,
            lunch() ? now.foods.values().stream().mapToInt(f -> f[1]).sum() : 0,
            waits(), stirs, cups.size(), sets.size(), logLength(), acts.size()};
        return what < 0 || what >= all.length ? HIDDEN : all[what];
    }

    @Override
    public String toString() {
        return "cells " + cells() + " tape \"" + tape + "\" laws " + laws + " status " + Arrays.toString(status);
    }
}

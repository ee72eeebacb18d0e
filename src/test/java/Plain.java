import java.util.ArrayList;
import java.util.Arrays;
import java.util.HashMap;
import java.util.HashSet;
import java.util.List;
import java.util.Map;
import java.util.Set;
import java.util.function.ToIntFunction;

/**
 * The document once more, written as slowly and plainly as can be: whole copies for undo and image, trees
 * for the law, and for the thoughts every possibility tried. The class is compared with it run by run.
 */
final class Plain {
    static final class House {
        int girls;
        int boys;
        int dowry;
        int couples;
        int widow;
        int linen;

        House copy() {
            House h = new House();
            h.girls = girls;
            h.boys = boys;
            h.dowry = dowry;
            h.couples = couples;
            h.widow = widow;
            h.linen = linen;
            return h;
        }
    }

    /** What UNDO brings back. */
    static final class World {
        List<House> houses = new ArrayList<>();
        int jug = -1;
        int gone;
        int gaps;
        int weddings;
        int generation;
        int state;
        List<int[]> book = new ArrayList<>();

        World copy() {
            World w = new World();
            for (House h : houses) {
                w.houses.add(h.copy());
            }
            w.jug = jug;
            w.gone = gone;
            w.gaps = gaps;
            w.weddings = weddings;
            w.generation = generation;
            w.state = state;
            w.book.addAll(book);
            return w;
        }
    }

    /** What is told beside it. */
    static final class Words {
        List<Line> law = new ArrayList<>();
        List<String[]> plans = new ArrayList<>();
        List<int[]> feuds = new ArrayList<>();
        List<int[]> sides = new ArrayList<>();
        List<Integer> children = new ArrayList<>();
        List<int[]> couples = new ArrayList<>();
        List<Integer> dowries = new ArrayList<>();
        List<int[]> persons = new ArrayList<>();
        List<Integer> heights = new ArrayList<>();
        int[] wants = {-1, -1, -1, -1, -1, -1, -1, -1, -1, -1};

        Words copy() {
            Words w = new Words();
            w.law = new ArrayList<>(law);
            w.plans = new ArrayList<>(plans);
            w.feuds = new ArrayList<>(feuds);
            w.sides = new ArrayList<>(sides);
            w.children = new ArrayList<>(children);
            w.couples = new ArrayList<>(couples);
            w.dowries = new ArrayList<>(dowries);
            w.persons = new ArrayList<>(persons);
            w.heights = new ArrayList<>(heights);
            w.wants = wants.clone();
            return w;
        }
    }

    record Line(String word, ToIntFunction<Asked> value, ToIntFunction<Asked> when) {
    }

    record Asked(World world, Words words, int house) {
    }

    World world = new World();
    Words words = new Words();
    List<World> past = new ArrayList<>();
    World imageWorld;
    Words imageWords;
    StringBuilder tape = new StringBuilder();
    int faultKind;
    int faultPlace = -1;

    int state(int v) {
        int was = world.state;
        world.state = v;
        past.clear();
        return was;
    }

    int house(int girls, int boys, int dowry) {
        if (girls < 0 || girls > 9 || boys < 0 || boys > 9 || dowry < 0 || dowry > 9999 || world.houses.size() == 16) {
            return -1;
        }
        House h = new House();
        h.girls = girls;
        h.boys = boys;
        h.dowry = dowry;
        h.linen = world.houses.size();
        world.houses.add(h);
        if (world.houses.size() == 1) {
            world.jug = 0;
        }
        past.clear();
        return world.houses.size() - 1;
    }

    boolean isHouse(int h) {
        return h >= 0 && h < world.houses.size();
    }

    boolean set(int what, int who, int v) {
        if (!isHouse(who) || what < 0 || what > 4 || v < 0) {
            return false;
        }
        if (v > (what == 2 ? 9999 : what == 4 ? 1 : 9)) {
            return false;
        }
        House h = world.houses.get(who);
        if (what == 0) {
            h.girls = v;
        } else if (what == 1) {
            h.boys = v;
        } else if (what == 2) {
            h.dowry = v;
        } else if (what == 3) {
            h.couples = v;
        } else {
            h.widow = v;
        }
        past.clear();
        return true;
    }

    void remember() {
        past.add(world.copy());
        if (past.size() > 6) {
            past.remove(0);
        }
    }

    boolean act(int what, int who) {
        if (!isHouse(who)) {
            return false;
        }
        House h = world.houses.get(who);
        if (what == 0) {
            int to = to(world, who);
            if (h.girls == 0 || !can(world, who, to)) {
                return false;
            }
            remember();
            wed(world, who, to, true);
            return true;
        }
        if (what == 1 && h.girls < 9) {
            remember();
            h.girls++;
            return true;
        }
        if (what == 2 && h.boys < 9) {
            remember();
            h.boys++;
            return true;
        }
        if (what == 3 && h.widow == 1) {
            remember();
            h.widow = 0;
            return true;
        }
        if (what == 4 && world.jug != who) {
            remember();
            world.jug = who;
            return true;
        }
        return false;
    }

    int side(int h) {
        int side = 0;
        for (int[] line : words.sides) {
            if (line[0] == h) {
                side = line[1];
            }
        }
        return side;
    }

    int to(World w, int h) {
        int best = -1;
        for (int t = 0; t < w.houses.size(); t++) {
            if (side(t) == side(h)) {
                if (side(h) == 0 && t > h && best == -1) {
                    best = t;
                }
                if (side(h) == 1 && t < h) {
                    best = t;
                }
            }
        }
        return best;
    }

    boolean hasFeud(int a, int b) {
        for (int[] line : words.feuds) {
            if (line[0] == a && line[1] == b) {
                return true;
            }
        }
        return false;
    }

    boolean can(World w, int who, int to) {
        if (to == -1) {
            return true;
        }
        House t = w.houses.get(to);
        return t.boys > 0 && t.widow == 0 && !hasFeud(who, to) && !hasFeud(to, who);
    }

    void line(World w, int what, int which, int much, boolean real) {
        if (real && w.book.size() < 150) {
            w.book.add(new int[] {w.generation, what, which, much});
        }
    }

    void wed(World w, int who, int to, boolean real) {
        House h = w.houses.get(who);
        h.girls--;
        int brings = ask(w, "brings", who);
        h.dowry -= brings;
        if (to == -1) {
            w.gone++;
            h.linen = -1;
            line(w, 1, who, brings, real);
        } else {
            House t = w.houses.get(to);
            t.dowry = Math.min(9999, t.dowry + brings);
            t.boys--;
            t.couples = Math.min(9, t.couples + 1);
            w.weddings++;
            if (h.linen != -1) {
                t.linen = h.linen;
                h.linen = -1;
            }
            if (w.jug == who) {
                w.jug = to;
            }
            line(w, 0, who, brings, real);
        }
    }

    int ask(World w, String word, int who) {
        House h = w.houses.get(who);
        int v = word.equals("goes") ? 800 - 100 * w.gaps : word.equals("bears") ? 2 : h.dowry / 2;
        Asked asked = new Asked(w, words, who);
        for (Line line : words.law) {
            if (line.word.equals(word) && (line.when == null || line.when.applyAsInt(asked) == 1)) {
                v = line.value.applyAsInt(asked);
                break;
            }
        }
        int most = word.equals("goes") ? 1000 : word.equals("bears") ? 5 : h.dowry;
        return v < 0 ? 0 : v > most ? most : v;
    }

    int draw(World w, int m) {
        w.state = w.state * 1664525 + 1013904223;
        long bits = (w.state & 0xffffffffL) >> 8;
        return (int) (bits % m);
    }

    void generation(World w, boolean real) {
        for (String[] plan : words.plans) {
            if (Integer.parseInt(plan[0]) == w.generation) {
                int who = Integer.parseInt(plan[2]);
                House h = w.houses.get(who);
                switch (plan[1]) {
                    case "girl" -> h.girls = Math.min(9, h.girls + 1);
                    case "boy" -> h.boys = Math.min(9, h.boys + 1);
                    case "widow" -> h.widow = 1;
                    case "comfort" -> h.widow = 0;
                    case "give" -> h.dowry = Math.min(9999, h.dowry + Integer.parseInt(plan[3]));
                    default -> w.jug = who;
                }
            }
        }
        Set<Integer> came = new HashSet<>();
        for (int who = 0; who < w.houses.size(); who++) {
            if (w.houses.get(who).girls > 0) {
                int to = to(w, who);
                if (!can(w, who, to)) {
                    w.gaps++;
                    line(w, 2, who, to, real);
                } else {
                    int goes = ask(w, "goes", who);
                    boolean does = real ? goes > 0 && draw(w, 1000) < goes : goes >= 500;
                    if (does) {
                        came.add(to);
                        wed(w, who, to, real);
                    }
                }
            }
        }
        for (int who = 0; who < w.houses.size(); who++) {
            House h = w.houses.get(who);
            int counted = 0;
            boolean boy = false;
            for (int c = 0; c < h.couples; c++) {
                int bears = ask(w, "bears", who);
                for (int k = 0; k < bears; k++) {
                    boolean isBoy = real ? draw(w, 2) == 1 : boy;
                    boy = !boy;
                    if (isBoy && h.boys < 9) {
                        h.boys++;
                        counted++;
                    } else if (!isBoy && h.girls < 9) {
                        h.girls++;
                        counted++;
                    }
                }
            }
            h.couples = 0;
            if (counted > 0) {
                line(w, 3, who, counted, real);
            }
        }
        for (int who = 0; who < w.houses.size(); who++) {
            House h = w.houses.get(who);
            if (!came.contains(who) && h.boys > 0 && h.girls == 0 && h.widow == 0) {
                h.widow = 1;
                line(w, 4, who, 0, real);
            }
        }
        w.generation++;
    }

    int years(int n) {
        if (n < 1 || n > 60 || world.generation + n > 9999) {
            return -1;
        }
        int before = world.weddings;
        for (int i = 0; i < n; i++) {
            remember();
            generation(world, true);
        }
        return world.weddings - before;
    }

    int feed(int a, int b, int c, int d, int e) {
        if (tape.length() + 20 > 400) {
            return -1;
        }
        for (int number : new int[] {a, b, c, d, e}) {
            tape.append((char) (number >> 24 & 255)).append((char) (number >> 16 & 255));
            tape.append((char) (number >> 8 & 255)).append((char) (number & 255));
        }
        return tape.length();
    }

    boolean end(int n) {
        if (n < 0 || n > tape.length()) {
            return false;
        }
        tape.setLength(n);
        return true;
    }

    int text(int k) {
        String all = tape.toString();
        tape.setLength(0);
        faultKind = 0;
        faultPlace = -1;
        if (k < 0 || k > 3) {
            return -1;
        }
        PlainText text = new PlainText(all, world.houses.size());
        boolean well = k == 0 ? text.law() : k == 1 ? text.plans() : k == 2 ? text.feuds() : text.sides();
        if (!well) {
            faultKind = text.faultKind;
            faultPlace = text.faultPlace;
            return -1;
        }
        if (k == 0) {
            words.law = text.lawLines;
            return words.law.size();
        }
        past.clear();
        if (k == 1) {
            words.plans = text.planLines;
            return words.plans.size();
        }
        if (k == 2) {
            words.feuds = text.pairs;
            return words.feuds.size();
        }
        words.sides = text.pairs;
        return words.sides.size();
    }

    int fault(int what) {
        return what == 0 ? faultKind : what == 1 ? faultPlace : -1;
    }

    int of(int house, int what) {
        if (!isHouse(house)) {
            return -2;
        }
        House h = world.houses.get(house);
        switch (what) {
            case 0: return h.girls;
            case 1: return h.boys;
            case 2: return h.dowry;
            case 3: return h.couples;
            case 4: return h.widow;
            case 5: return h.linen;
            case 6: return side(house);
            case 7: return to(world, house);
            case 8: return ask(world, "goes", house);
            case 9: return ask(world, "bears", house);
            case 10: return ask(world, "brings", house);
            case 11:
                int set = 0;
                for (int b = 0; b < 16; b++) {
                    set += hasFeud(house, b) ? 1 << b : 0;
                }
                return set;
            default: return -2;
        }
    }

    int book(int i, int what) {
        return i < 0 || i >= world.book.size() || what < 0 || what > 3 ? -1 : world.book.get(i)[what];
    }

    int goes(int n, int what) {
        if (n < 1 || n > 60 || what < 0 || what > 3) {
            return -1;
        }
        World w = world.copy();
        for (int i = 0; i < n; i++) {
            generation(w, false);
        }
        int sum = 0;
        for (House h : w.houses) {
            sum += h.dowry;
        }
        return new int[] {w.weddings, w.gone, w.gaps, sum}[what];
    }

    int jug(int house) {
        if (!isHouse(house)) {
            return -1;
        }
        World w = world.copy();
        for (int i = 0; i <= 60; i++) {
            if (w.jug == house) {
                return i;
            }
            generation(w, false);
        }
        return -1;
    }

    int meets(int n, int k, int ab, int what) {
        if (n < 2 || n > 500 || k < 1 || k > 9 || ab < 0 || ab / 1000 >= n || ab % 1000 >= n || what < 0 || what > 1) {
            return -1;
        }
        int a = ab / 1000;
        int b = ab % 1000;
        int pass = 0;
        for (int t = 0; t < 2000; t++) {
            if (a == b) {
                return what == 0 ? t : pass;
            }
            int doors = (b - a + n) % n;
            if (doors > 0 && doors < k + 1) {
                pass = 1;
            }
            a = (a + 1) % n;
            b = ((b - k) % n + n) % n;
        }
        return what == 0 ? -1 : pass;
    }

    static int told(List<Integer> row, int v, int least, int most, int room) {
        if (v == -1) {
            row.clear();
            return 0;
        }
        if (v < least || v > most || row.size() >= room) {
            return -1;
        }
        row.add(v);
        return row.size();
    }

    int child(int v) {
        return told(words.children, v, 0, 1, 12);
    }

    int planned(int what) {
        if (what < 0 || what > 1) {
            return -1;
        }
        int n = words.children.size();
        int best = 99;
        for (int set = 0; set < 1 << n; set++) {
            boolean well = true;
            int changed = 0;
            for (int i = 0; i < n; i++) {
                int me = set >> i & 1;
                changed += me == words.children.get(i) ? 0 : 1;
                if (i > 0) {
                    int before = set >> i - 1 & 1;
                    well &= what == 0 ? me == 1 || before == 1 : me != before;
                }
            }
            if (well) {
                best = Math.min(best, changed);
            }
        }
        return best;
    }

    int siding(int row, int what) {
        String digits = Integer.toString(row);
        if (row < 0 || digits.charAt(0) != '1' || digits.length() < 2 || what < 0 || what > 2) {
            return -1;
        }
        digits = digits.substring(1);
        for (int i = 0; i < digits.length(); i++) {
            if (digits.indexOf('0' + i) < 0) {
                return -1;
            }
        }
        if (digits.length() > 9) {
            return -1;
        }
        if (what == 2) {
            int n = digits.length();
            return SIDINGS.computeIfAbsent(n, Plain::sortable);
        }
        int most = mostIn(digits);
        return what == 0 ? most == -1 ? 0 : 1 : most;
    }

    private static final Map<Integer, Integer> SIDINGS = new HashMap<>();

    static int sortable(int n) {
        int many = 0;
        for (int[] p : rowsOf(n)) {
            StringBuilder s = new StringBuilder();
            for (int v : p) {
                s.append(v);
            }
            many += mostIn(s.toString()) >= 0 ? 1 : 0;
        }
        return many;
    }

    static int mostIn(String digits) {
        List<Integer> siding = new ArrayList<>();
        int due = 0;
        int most = 0;
        for (char c : digits.toCharArray()) {
            while (!siding.isEmpty() && siding.get(siding.size() - 1) == due) {
                siding.remove(siding.size() - 1);
                due++;
            }
            if (c - '0' == due) {
                due++;
            } else {
                siding.add(c - '0');
                most = Math.max(most, siding.size());
            }
        }
        while (!siding.isEmpty() && siding.get(siding.size() - 1) == due) {
            siding.remove(siding.size() - 1);
            due++;
        }
        return due == digits.length() ? most : -1;
    }

    private static final Map<Integer, List<int[]>> ROWS = new HashMap<>();

    static List<int[]> rowsOf(int n) {
        List<int[]> known = ROWS.get(n);
        if (known != null) {
            return known;
        }
        List<int[]> rows = new ArrayList<>();
        if (n == 0) {
            rows.add(new int[0]);
        } else {
            for (int[] less : rowsOf(n - 1)) {
                for (int at = 0; at < n; at++) {
                    int[] row = new int[n];
                    for (int i = 0; i < n; i++) {
                        row[i] = i < at ? less[i] : i == at ? n - 1 : less[i - 1];
                    }
                    rows.add(row);
                }
            }
        }
        ROWS.put(n, rows);
        return rows;
    }

    int bought(int a, int b) {
        if (a == -1) {
            words.couples.clear();
            return 0;
        }
        if (a < 0 || a > 8 || b < 0 || b > 8 || a == b || words.couples.size() == 6) {
            return -1;
        }
        words.couples.add(new int[] {a, b});
        return words.couples.size();
    }

    int rows(int n, int what) {
        if (n < 2 || n > 9 || what < 0 || what > 1) {
            return -1;
        }
        int many = 0;
        int[] place = new int[n];
        for (int[] row : rowsOf(n)) {
            for (int i = 0; i < n; i++) {
                place[row[i]] = i;
            }
            boolean well = true;
            for (int[] couple : words.couples) {
                if (couple[0] < n && couple[1] < n) {
                    int apart = place[couple[0]] - place[couple[1]];
                    well &= apart == 1 || what == 0 && apart == -1;
                }
            }
            many += well ? 1 : 0;
        }
        return many;
    }

    int dowry(int v) {
        return told(words.dowries, v, 0, 60, 10);
    }

    int pushed(int what) {
        if (what < 0 || what > words.dowries.size()) {
            return -1;
        }
        int[] has = new int[words.dowries.size()];
        for (int i = 0; i < has.length; i++) {
            has[i] = words.dowries.get(i);
        }
        int times = 0;
        boolean more = true;
        while (more) {
            more = false;
            for (int i = has.length - 1; i >= 0 && !more; i--) {
                if (has[i] >= 2) {
                    has[i] -= 2;
                    if (i > 0) {
                        has[i - 1]++;
                    }
                    if (i + 1 < has.length) {
                        has[i + 1]++;
                    }
                    times++;
                    more = true;
                }
            }
        }
        return what == 0 ? times : has[what - 1];
    }

    boolean above(int a, int b) {
        return hasFeud(a, b) && !hasFeud(b, a);
    }

    int feuds(int what) {
        int n = world.houses.size();
        if (what == 0) {
            int set = 0;
            for (int a = 0; a < n; a++) {
                boolean king = true;
                for (int b = 0; b < n; b++) {
                    boolean well = a == b || above(a, b);
                    for (int c = 0; c < n; c++) {
                        well |= above(a, c) && above(c, b);
                    }
                    king &= well;
                }
                set += king ? 1 << a : 0;
            }
            return set;
        }
        if (what == 1) {
            int longest = 0;
            for (int a = 0; a < Math.min(12, n); a++) {
                longest = Math.max(longest, longest(new ArrayList<>(List.of(a))));
            }
            return longest;
        }
        return -1;
    }

    int longest(List<Integer> row) {
        int longest = row.size();
        for (int b = 0; b < Math.min(12, world.houses.size()); b++) {
            if (!row.contains(b) && above(row.get(row.size() - 1), b)) {
                row.add(b);
                longest = Math.max(longest, longest(row));
                row.remove(row.size() - 1);
            }
        }
        return longest;
    }

    int person(int a, int b) {
        if (a == -10) {
            words.persons.clear();
            return 0;
        }
        int n = words.persons.size();
        boolean none = a == -1 && b == -1;
        boolean two = a >= 0 && a < n && b >= 0 && b < n && a != b;
        if (n == 14 || !none && !two) {
            return -1;
        }
        words.persons.add(new int[] {a, b});
        return n;
    }

    int akin(int i, int j, int what) {
        int n = words.persons.size();
        if (i < 0 || j < 0 || i >= n || j >= n || what < 0 || what > 1) {
            return -1;
        }
        double near = near(Math.max(i, j), Math.min(i, j), new HashMap<>());
        long below = 1;
        while (near * below != Math.rint(near * below)) {
            below *= 2;
        }
        return (int) (what == 0 ? near * below : below);
    }

    double near(int i, int j, Map<Integer, Double> known) {
        Double was = known.get(i * 100 + j);
        if (was != null) {
            return was;
        }
        int[] parents = words.persons.get(i);
        double near;
        if (i == j) {
            near = parents[0] == -1 ? 0.5 : 0.5 + near(Math.max(parents[0], parents[1]), Math.min(parents[0], parents[1]), known) / 2;
        } else if (parents[0] == -1) {
            near = 0;
        } else {
            double a = near(Math.max(parents[0], j), Math.min(parents[0], j), known);
            double b = near(Math.max(parents[1], j), Math.min(parents[1], j), known);
            near = (a + b) / 2;
        }
        known.put(i * 100 + j, near);
        return near;
    }

    /** By going the way very often: the chances of all doors, till they lie. */
    int home(int i, int n, int ab, int what) {
        int a = ab / 10;
        int b = ab % 10;
        if (n < 1 || n > 8 || i < 0 || i > n || ab < 0 || a < 1 || a > 5 || b < 2 || b > 6 || a >= b || what < 0 || what > 1) {
            return -1;
        }
        double[] chance = new double[n + 1];
        chance[n] = 1;
        for (int round = 0; round < 3000; round++) {
            for (int d = 1; d < n; d++) {
                chance[d] = (a * chance[d + 1] + (b - a) * chance[d - 1]) / b;
            }
        }
        for (int below = 1; ; below++) {
            double above = chance[i] * below;
            if (Math.abs(above - Math.rint(above)) < 1e-7) {
                return what == 0 ? (int) Math.rint(above) : below;
            }
        }
    }

    private static final Map<Integer, Integer> STREETS = new HashMap<>();

    int streets(int n, int k, int what) {
        if (n < 1 || n > 12 || k < 1 || k > 4 || what < 0 || what > 1) {
            return -1;
        }
        return STREETS.computeIfAbsent(n * 100 + k * 10 + what, key -> countStreets(n, k, what == 1));
    }

    /** Each painting that is not greater than any of its turns (and mirrored turns). */
    static int countStreets(int n, int k, boolean behind) {
        int all = 1;
        for (int i = 0; i < n; i++) {
            all *= k;
        }
        int top = all / k;
        int many = 0;
        for (int p = 0; p < all; p++) {
            boolean least = true;
            int turned = p;
            int back = 0;
            for (int i = 0, rest = p; i < n; i++) {
                back = back * k + rest % k;
                rest /= k;
            }
            for (int i = 0; i < n && least; i++) {
                turned = turned / k + turned % k * top;
                back = back / k + back % k * top;
                least = turned >= p && (!behind || back >= p);
            }
            many += least ? 1 : 0;
        }
        return many;
    }

    boolean moved(int a, int b) {
        if (a < 0 || a > 9 || b < -2 || b > 9 || a == b) {
            return false;
        }
        words.wants[a] = b;
        return true;
    }

    int chain() {
        int best = 0;
        for (int set = 0; set < 1024; set++) {
            boolean well = true;
            int into = 0;
            for (int a = 0; a < 10 && well; a++) {
                if ((set >> a & 1) == 1) {
                    int b = words.wants[a];
                    well = b >= 0 && (into >> b & 1) == 0 && ((set >> b & 1) == 1 || words.wants[b] == -2);
                    into |= well ? 1 << b : 0;
                }
            }
            if (well) {
                best = Math.max(best, Integer.bitCount(set));
            }
        }
        return best;
    }

    int order(int n, int i, int t) {
        if (n < 1 || n > 52 || i < -1 || i >= n || i != -1 && (t < 0 || t > 1000)) {
            return -1;
        }
        List<Integer> first = new ArrayList<>();
        for (int p = 0; p < n; p++) {
            first.add(p);
        }
        List<Integer> now = first;
        for (int times = 0; ; times++) {
            if (i == -1 && times > 0 && now.equals(first)) {
                return times;
            }
            if (i != -1 && times == t) {
                return now.indexOf(i);
            }
            List<Integer> next = new ArrayList<>();
            int half = n - n / 2;
            for (int p = 0; p < half; p++) {
                next.add(now.get(p));
                if (half + p < n) {
                    next.add(now.get(half + p));
                }
            }
            now = next;
        }
    }

    int height(int v) {
        return told(words.heights, v, 1, 60, 10);
    }

    int windows(int what) {
        List<Integer> h = words.heights;
        if (what == 2) {
            int many = 0;
            for (int set = 1; set < 1 << h.size(); set++) {
                int last = 0;
                boolean up = true;
                for (int i = 0; i < h.size(); i++) {
                    if ((set >> i & 1) == 1) {
                        up &= h.get(i) > last;
                        last = h.get(i);
                    }
                }
                many += up ? 1 : 0;
            }
            return many;
        }
        if (what < 0 || what > 1) {
            return -1;
        }
        int[] sees = new int[h.size()];
        int couples = 0;
        for (int i = 0; i < h.size(); i++) {
            for (int j = i + 1; j < h.size(); j++) {
                boolean free = true;
                for (int m = i + 1; m < j; m++) {
                    free &= h.get(m) < h.get(i) && h.get(m) < h.get(j);
                }
                if (free) {
                    couples++;
                    sees[i]++;
                    sees[j]++;
                }
            }
        }
        return what == 0 ? couples : Arrays.stream(sees).max().orElse(0);
    }

    private static final Map<Integer, byte[]> GAMES = new HashMap<>();

    static boolean three(int marks) {
        for (int d = 0; d < 18; d++) {
            if ((marks >> d & 7) == 7) {
                return true;
            }
        }
        return false;
    }

    /** For each set of marks the least door that wins, and one; 0: none. */
    static byte[] gameOf(int n) {
        return GAMES.computeIfAbsent(n, doors -> {
            byte[] wins = new byte[1 << doors];
            // 1 won for who is next, 0 nobody, -1 lost
            byte[] worth = new byte[1 << doors];
            for (int marks = (1 << doors) - 1; marks >= 0; marks--) {
                int best = marks == (1 << doors) - 1 ? 0 : -1;
                for (int d = 0; d < doors; d++) {
                    int then = marks | 1 << d;
                    if (then != marks) {
                        int got = three(then) ? 1 : -worth[then];
                        if (got == 1 && best < 1) {
                            wins[marks] = (byte) (d + 1);
                        }
                        best = Math.max(best, got);
                    }
                }
                worth[marks] = (byte) best;
            }
            return wins;
        });
    }

    int game(int n, int marks, int what) {
        if (n < 1 || n > 18 || marks < 0 || marks >= 1 << n || three(marks) || what < 0 || what > 1) {
            return -1;
        }
        int door = gameOf(n)[marks] - 1;
        return what == 1 ? door : door == -1 ? 0 : 1;
    }

    boolean undo() {
        if (past.isEmpty()) {
            return false;
        }
        world = past.remove(past.size() - 1);
        return true;
    }

    boolean image(boolean taken) {
        if (taken) {
            imageWorld = world.copy();
            imageWords = words.copy();
            return true;
        }
        if (imageWorld == null) {
            return false;
        }
        world = imageWorld.copy();
        words = imageWords.copy();
        past.clear();
        return true;
    }

    int look(int what) {
        switch (what) {
            case 0: return world.houses.size();
            case 1: return world.weddings;
            case 2: return world.gone;
            case 3: return world.gaps;
            case 4: return world.jug;
            case 5:
                int set = 0;
                for (int h = 0; h < world.houses.size(); h++) {
                    set += world.houses.get(h).widow << h;
                }
                return set;
            case 6: return world.generation;
            case 7: return world.book.size();
            case 8: return world.state;
            case 9: return words.law.size();
            case 10: return words.plans.size();
            case 11: return words.feuds.size();
            case 12: return words.sides.size();
            case 13: return past.size();
            default: return -100000;
        }
    }
}

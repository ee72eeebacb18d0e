import java.util.ArrayList;
import java.util.List;
import java.util.Set;
import java.util.function.ToIntFunction;
import java.util.regex.Matcher;
import java.util.regex.Pattern;

/** Reads a text for the plain model: all tokens first, the law as a tree. */
final class PlainText {
    private static final Pattern TOKEN = Pattern.compile("[a-zA-Z]+|[0-9]+|[^ \n]", Pattern.DOTALL);
    private static final Set<String> NAMES =
        Set.of("girls", "boys", "couples", "dowry", "widow", "number", "side", "jug", "gaps", "generation");

    private static final class Fault extends RuntimeException {
        private static final long serialVersionUID = 1;
        final int kind;

        Fault(int kind) {
            this.kind = kind;
        }
    }

    final List<Plain.Line> lawLines = new ArrayList<>();
    final List<String[]> planLines = new ArrayList<>();
    final List<int[]> pairs = new ArrayList<>();
    int faultKind;
    int faultPlace = -1;
    private final List<String> tokens = new ArrayList<>();
    private final List<Integer> places = new ArrayList<>();
    private final int houses;
    private int at;
    private int open;

    PlainText(String text, int houses) {
        this.houses = houses;
        Matcher m = TOKEN.matcher(text);
        while (m.find()) {
            tokens.add(m.group());
            places.add(m.start());
        }
        tokens.add("");
        places.add(text.length());
    }

    private String now() {
        return tokens.get(at);
    }

    private boolean take(String token) {
        if (now().equals(token)) {
            at++;
            return true;
        }
        return false;
    }

    private void must(String token) {
        if (!take(token)) {
            throw new Fault(1);
        }
    }

    private int number(int least, int most, int unlike) {
        if (!now().matches("[0-9]{1,4}")) {
            throw new Fault(1);
        }
        int v = Integer.parseInt(now());
        if (v < least || v > most || v == unlike) {
            throw new Fault(2);
        }
        at++;
        return v;
    }

    private boolean run(Runnable line) {
        try {
            for (int lines = 0; !now().isEmpty(); lines++) {
                seventeenth = lines == 16;
                line.run();
                must(";");
            }
            return true;
        } catch (Fault f) {
            faultKind = f.kind;
            faultPlace = places.get(at);
            return false;
        }
    }

    private boolean seventeenth;

    private String first(Set<String> words) {
        String word = now();
        if (!words.contains(word)) {
            throw new Fault(1);
        }
        if (seventeenth) {
            throw new Fault(3);
        }
        at++;
        return word;
    }

    boolean plans() {
        return run(() -> {
            first(Set.of("in"));
            int generation = number(0, 999, -1);
            String what = now();
            if (!Set.of("girl", "boy", "widow", "comfort", "give", "jug").contains(what)) {
                throw new Fault(1);
            }
            at++;
            int who = number(0, houses - 1, -1);
            int n = what.equals("give") ? number(1, 999, -1) : 0;
            planLines.add(new String[] {"" + generation, what, "" + who, "" + n});
        });
    }

    boolean feuds() {
        return run(() -> {
            first(Set.of("house"));
            int a = number(0, houses - 1, -1);
            must("feud");
            pairs.add(new int[] {a, number(0, houses - 1, a)});
        });
    }

    boolean sides() {
        return run(() -> {
            first(Set.of("house"));
            int a = number(0, houses - 1, -1);
            must("side");
            pairs.add(new int[] {a, number(0, 1, -1)});
        });
    }

    boolean law() {
        return run(() -> {
            String word = first(Set.of("goes", "bears", "brings"));
            ToIntFunction<Plain.Asked> value = sum();
            ToIntFunction<Plain.Asked> when = take("when") ? either() : null;
            lawLines.add(new Plain.Line(word, value, when));
        });
    }

    private ToIntFunction<Plain.Asked> either() {
        ToIntFunction<Plain.Asked> left = both();
        while (take("or")) {
            ToIntFunction<Plain.Asked> a = left;
            ToIntFunction<Plain.Asked> b = both();
            left = x -> a.applyAsInt(x) == 1 || b.applyAsInt(x) == 1 ? 1 : 0;
        }
        return left;
    }

    private ToIntFunction<Plain.Asked> both() {
        ToIntFunction<Plain.Asked> left = condition();
        while (take("and")) {
            ToIntFunction<Plain.Asked> a = left;
            ToIntFunction<Plain.Asked> b = condition();
            left = x -> a.applyAsInt(x) == 1 && b.applyAsInt(x) == 1 ? 1 : 0;
        }
        return left;
    }

    private ToIntFunction<Plain.Asked> condition() {
        if (now().equals("not") || now().equals("(")) {
            if (open == 8) {
                throw new Fault(3);
            }
            open++;
            ToIntFunction<Plain.Asked> inner;
            if (take("not")) {
                ToIntFunction<Plain.Asked> c = condition();
                inner = x -> c.applyAsInt(x) == 1 ? 0 : 1;
            } else {
                at++;
                inner = either();
                must(")");
            }
            open--;
            return inner;
        }
        ToIntFunction<Plain.Asked> a = sum();
        String sign = now();
        if (!Set.of("<", "=", ">").contains(sign)) {
            throw new Fault(1);
        }
        at++;
        ToIntFunction<Plain.Asked> b = sum();
        return x -> {
            int order = Integer.compare(a.applyAsInt(x), b.applyAsInt(x));
            return order == (sign.equals("<") ? -1 : sign.equals("=") ? 0 : 1) ? 1 : 0;
        };
    }

    private ToIntFunction<Plain.Asked> sum() {
        ToIntFunction<Plain.Asked> left = product();
        while (now().equals("+") || now().equals("-")) {
            int sign = take("+") ? 1 : -1;
            at += sign == -1 ? 1 : 0;
            ToIntFunction<Plain.Asked> a = left;
            ToIntFunction<Plain.Asked> b = product();
            left = x -> a.applyAsInt(x) + sign * b.applyAsInt(x);
        }
        return left;
    }

    private ToIntFunction<Plain.Asked> product() {
        ToIntFunction<Plain.Asked> left = part();
        while (now().equals("*") || now().equals("/")) {
            ToIntFunction<Plain.Asked> a = left;
            if (take("*")) {
                ToIntFunction<Plain.Asked> b = part();
                left = x -> a.applyAsInt(x) * b.applyAsInt(x);
            } else {
                at++;
                int by = number(1, 9999, -1);
                left = x -> a.applyAsInt(x) / by;
            }
        }
        return left;
    }

    private ToIntFunction<Plain.Asked> part() {
        String name = now();
        if (!NAMES.contains(name)) {
            int v = number(0, 9999, -1);
            return x -> v;
        }
        at++;
        return x -> value(name, x);
    }

    private static int value(String name, Plain.Asked x) {
        Plain.House h = x.world().houses.get(x.house());
        switch (name) {
            case "girls": return h.girls;
            case "boys": return h.boys;
            case "couples": return h.couples;
            case "dowry": return h.dowry;
            case "widow": return h.widow;
            case "number": return x.house();
            case "side":
                int side = 0;
                for (int[] line : x.words().sides) {
                    side = line[0] == x.house() ? line[1] : side;
                }
                return side;
            case "jug": return x.world().jug == x.house() ? 1 : 0;
            case "gaps": return x.world().gaps;
            default: return x.world().generation;
        }
    }
}

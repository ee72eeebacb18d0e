import java.util.Random;

/** Many runs of calls as they may come, right and wrong ones, each answer compared with the plain model's. */
public final class RunsTest {
    private static final String[] NAMES =
        {"girls", "boys", "couples", "dowry", "widow", "number", "side", "jug", "gaps", "generation"};
    private final Random dice;
    private final NextDoorBrides x = new NextDoorBrides();
    private final Plain y = new Plain();
    private final StringBuilder run = new StringBuilder();

    private RunsTest(long seed) {
        dice = new Random(seed);
        run.append("run ").append(seed).append(':');
    }

    public static void main(String[] args) {
        int runs = args.length > 0 ? Integer.parseInt(args[0]) : 6000;
        for (int seed = 0; seed < runs && Due.wrong() < 10; seed++) {
            new RunsTest(seed).go();
        }
        Due.finish();
    }

    private void go() {
        int houses = dice.nextInt(9) == 0 ? 0 : dice.nextInt(dice.nextBoolean() ? 4 : 17);
        for (int i = 0; i < houses; i++) {
            house(dice.nextInt(5), dice.nextInt(5), dice.nextInt(400));
        }
        int calls = 20 + dice.nextInt(40);
        int kind = dice.nextInt(4);
        for (int i = 0; i < calls; i++) {
            if (kind == 0 && dice.nextInt(3) > 0) {
                thinkTelling();
            } else {
                step();
            }
        }
        compare();
    }

    private void same(String call, long got, long want) {
        run.append(' ').append(call).append('=').append(want).append(';');
        Due.same(got == want ? call : run.toString(), got, want);
    }

    private static int bit(boolean b) {
        return b ? 1 : 0;
    }

    /** Mostly within 0 .. most, now and then beside it. */
    private int about(int most) {
        return dice.nextInt(12) == 0 ? dice.nextInt(most + 8) - 4 : dice.nextInt(most + 1);
    }

    private int some() {
        return dice.nextInt(40) == 0 ? dice.nextInt() : about(Math.max(0, y.look(0) - 1));
    }

    private void house(int girls, int boys, int dowry) {
        same("house(" + girls + ", " + boys + ", " + dowry + ")", x.house(girls, boys, dowry), y.house(girls, boys, dowry));
    }

    private void step() {
        int a = some();
        int b;
        int c;
        switch (dice.nextInt(16)) {
            case 0:
                if (dice.nextInt(3) == 0) {
                    house(about(9), about(9), dice.nextBoolean() ? about(9999) : about(50));
                } else {
                    b = dice.nextInt();
                    same("state(" + b + ")", x.state(b), y.state(b));
                }
                break;
            case 1:
                b = about(4);
                c = b == 2 ? about(9999) : b == 4 ? about(1) : about(9);
                same("set(" + b + ", " + a + ", " + c + ")", bit(x.set(b, a, c)), bit(y.set(b, a, c)));
                break;
            case 2:
            case 3:
            case 4:
                b = about(4);
                same("act(" + b + ", " + a + ")", bit(x.act(b, a)), bit(y.act(b, a)));
                break;
            case 5:
            case 6:
            case 7:
                b = dice.nextInt(3) > 0 ? 1 + dice.nextInt(3) : about(61);
                same("years(" + b + ")", x.years(b), y.years(b));
                break;
            case 8:
            case 9:
            case 10:
                text();
                break;
            case 11:
                b = about(61);
                c = about(3);
                same("goes(" + b + ", " + c + ")", x.goes(b, c), y.goes(b, c));
                same("jug(" + a + ")", x.jug(a), y.jug(a));
                break;
            case 12:
            case 13:
                same("undo()", bit(x.undo()), bit(y.undo()));
                break;
            case 14:
                boolean taken = dice.nextInt(3) > 0;
                same("image(" + taken + ")", bit(x.image(taken)), bit(y.image(taken)));
                break;
            default:
                thinkTelling();
                break;
        }
        b = about(13);
        same("look(" + b + ")", x.look(b), y.look(b));
        b = about(11);
        same("of(" + a + ", " + b + ")", x.of(a, b), y.of(a, b));
    }

    private void thinkTelling() {
        int a = about(13);
        int b = about(13);
        switch (dice.nextInt(10)) {
            case 0:
                a = about(1);
                same("child(" + a + ")", x.child(a), y.child(a));
                break;
            case 1:
                a = dice.nextInt(20) == 0 ? -1 : about(8);
                b = about(8);
                same("bought(" + a + ", " + b + ")", x.bought(a, b), y.bought(a, b));
                break;
            case 2:
                a = about(dice.nextBoolean() ? 3 : 60);
                same("dowry(" + a + ")", x.dowry(a), y.dowry(a));
                break;
            case 3:
            case 4:
                a = dice.nextInt(30) == 0 ? -10 : dice.nextInt(4) == 0 ? -1 : about(Math.max(0, y.words.persons.size() - 1));
                b = a == -1 ? -1 : about(Math.max(0, y.words.persons.size() - 1));
                same("person(" + a + ", " + b + ")", x.person(a, b), y.person(a, b));
                break;
            case 5:
            case 6:
                a = about(9);
                b = dice.nextInt(4) == 0 ? -2 : about(9);
                same("moved(" + a + ", " + b + ")", bit(x.moved(a, b)), bit(y.moved(a, b)));
                break;
            case 7:
                a = about(dice.nextBoolean() ? 5 : 60);
                same("height(" + a + ")", x.height(a), y.height(a));
                break;
            default:
                think();
                break;
        }
    }

    private void think() {
        for (int what = -1; what <= 3; what++) {
            same("planned(" + what + ")", x.planned(what), y.planned(what));
            same("windows(" + what + ")", x.windows(what), y.windows(what));
            same("feuds(" + what + ")", x.feuds(what), y.feuds(what));
        }
        int n = dice.nextInt(30) == 0 ? 9 : 2 + dice.nextInt(6);
        same("rows(" + n + ", 0)", x.rows(n, 0), y.rows(n, 0));
        same("rows(" + n + ", 1)", x.rows(n, 1), y.rows(n, 1));
        int what = about(11);
        same("pushed(" + what + ")", x.pushed(what), y.pushed(what));
        same("chain()", x.chain(), y.chain());
        int i = about(Math.max(0, y.words.persons.size() - 1));
        int j = about(Math.max(0, y.words.persons.size() - 1));
        same("akin(" + i + ", " + j + ", 0)", x.akin(i, j, 0), y.akin(i, j, 0));
        same("akin(" + i + ", " + j + ", 1)", x.akin(i, j, 1), y.akin(i, j, 1));
    }

    private void text() {
        int k = dice.nextInt(20) == 0 ? about(5) : dice.nextInt(4);
        StringBuilder text = new StringBuilder();
        int lines = dice.nextInt(30) == 0 ? 17 : dice.nextInt(8);
        for (int i = 0; i < lines; i++) {
            line(text, k);
        }
        if (dice.nextInt(4) == 0 && text.length() > 0) {
            spoil(text);
        }
        if (text.length() > 400) {
            text.setLength(400);
        }
        int length = text.length();
        while (text.length() % 20 != 0) {
            text.append((char) dice.nextInt(256));
        }
        for (int i = 0; i < text.length(); i += 20) {
            int[] n = new int[5];
            for (int w = 0; w < 5; w++) {
                n[w] = Due.four(text, i + 4 * w);
            }
            same("feed", x.feed(n[0], n[1], n[2], n[3], n[4]), y.feed(n[0], n[1], n[2], n[3], n[4]));
        }
        same("end(" + length + ")", bit(x.end(length)), bit(y.end(length)));
        same("text(" + k + ") '" + text.substring(0, length) + "'", x.text(k), y.text(k));
        same("fault(0)", x.fault(0), y.fault(0));
        same("fault(1)", x.fault(1), y.fault(1));
    }

    private void spoil(StringBuilder text) {
        int at = dice.nextInt(text.length());
        switch (dice.nextInt(3)) {
            case 0:
                text.deleteCharAt(at);
                break;
            case 1:
                text.setCharAt(at, (char) dice.nextInt(256));
                break;
            default:
                text.insert(at, "();+-*/<=> 019az\n".charAt(dice.nextInt(17)));
                break;
        }
    }

    private void line(StringBuilder text, int k) {
        switch (k) {
            case 1:
                text.append("in ").append(dice.nextInt(9) == 0 ? about(1000) : y.look(6) + dice.nextInt(6));
                String what = new String[] {"girl", "boy", "widow", "comfort", "give", "jug"}[dice.nextInt(6)];
                text.append(' ').append(what).append(' ').append(number());
                if (what.equals("give")) {
                    text.append(' ').append(Math.abs(about(dice.nextBoolean() ? 99 : 1000)));
                }
                break;
            case 2:
                text.append("house ").append(number()).append(" feud ").append(number());
                break;
            case 3:
                text.append("house ").append(number()).append(" side ").append(Math.abs(about(1)));
                break;
            default:
                text.append(new String[] {"goes ", "bears ", "brings "}[dice.nextInt(3)]);
                sum(text);
                if (dice.nextInt(3) > 0) {
                    text.append(" when ");
                    either(text, 0);
                }
                break;
        }
        text.append(dice.nextBoolean() ? ";" : " ;\n");
    }

    private int number() {
        int houses = y.look(0);
        return dice.nextInt(40) == 0 || houses == 0 ? dice.nextInt(18) : dice.nextInt(houses);
    }

    private void sum(StringBuilder text) {
        part(text);
        while (dice.nextInt(3) == 0) {
            int sign = dice.nextInt(4);
            text.append("+-*/".charAt(sign));
            if (sign == 3) {
                text.append(Math.abs(about(9)));
            } else {
                part(text);
            }
        }
    }

    private void part(StringBuilder text) {
        if (dice.nextBoolean()) {
            text.append(NAMES[dice.nextInt(10)]);
        } else {
            text.append(dice.nextInt(dice.nextBoolean() ? 10 : 1000));
        }
    }

    private void either(StringBuilder text, int depth) {
        condition(text, depth);
        while (dice.nextInt(3) == 0) {
            text.append(dice.nextBoolean() ? " and " : " or ");
            condition(text, depth);
        }
    }

    private void condition(StringBuilder text, int depth) {
        int kind = depth > 10 ? 9 : dice.nextInt(dice.nextInt(10) == 0 ? 3 : 7);
        if (kind == 0) {
            text.append("not ");
            condition(text, depth + 1);
        } else if (kind == 1) {
            text.append('(');
            either(text, depth + 1);
            text.append(')');
        } else {
            sum(text);
            text.append("<=>".charAt(dice.nextInt(3)));
            sum(text);
        }
    }

    private void compare() {
        for (int what = -1; what <= 14; what++) {
            same("look(" + what + ")", x.look(what), y.look(what));
        }
        for (int h = -1; h <= y.look(0); h++) {
            for (int what = -1; what <= 12; what++) {
                same("of(" + h + ", " + what + ")", x.of(h, what), y.of(h, what));
            }
        }
        for (int i = -1; i <= y.look(7); i++) {
            for (int what = -1; what <= 4; what++) {
                same("book(" + i + ", " + what + ")", x.book(i, what), y.book(i, what));
            }
        }
        think();
    }
}

import java.io.IOException;
import java.lang.management.ManagementFactory;
import java.lang.reflect.Method;
import java.lang.reflect.Modifier;
import java.nio.file.Files;
import java.nio.file.Path;
import java.util.Random;
import java.util.Set;
import java.util.TreeSet;
import java.util.regex.Matcher;
import java.util.regex.Pattern;

/** The rules of LANGUAGE.md that can be looked up: the words of the source, the face, and how little a call makes. */
public final class LanguageTest {
    private static final Path SOURCE = Path.of("src/main/java/NextDoorBrides.java");

    private LanguageTest() {
    }

    public static void main(String[] args) throws IOException {
        String source = Files.readString(SOURCE).replaceAll("(?s)/\\*.*?\\*/", "").replaceAll("//[^\n]*", "");
        noForbiddenWords(source);
        face();
        shortMethods(source);
        nothingThrows();
        fewThingsAreMade();
        Due.finish();
    }

    private static void noForbiddenWords(String source) {
        String[] forbidden = {"\\bthrow\\b", "\\bthrows\\b", "\\btry\\b", "\\bcatch\\b", "\\bsynchronized\\b", "\\bassert\\b",
            "->", "::", "\\bRandom\\b", "\\bSystem\\.(?!arraycopy)", "\\w+Exact\\b", "\\bthread\\b", "(?i)\\bimport (?!java\\.util\\.Arrays;)",
            "\\bpackage\\b", "\"\\s*\\+", "\\+\\s*\"", "\\bprotected\\b", "\\bdefault ->", "\\bstatic \\{", "[^\\x01-\\x7f]"};
        for (String word : forbidden) {
            Matcher m = Pattern.compile(word).matcher(source);
            Due.no("the source has '" + word + "'", m.find());
        }
        Due.same("public classes", source.split("public final class ", -1).length - 1, 1);
    }

    private static void face() {
        Set<String> open = new TreeSet<>();
        for (Method m : NextDoorBrides.class.getDeclaredMethods()) {
            if (Modifier.isPrivate(m.getModifiers())) {
                continue;
            }
            Due.yes(m.getName() + " is public", Modifier.isPublic(m.getModifiers()));
            open.add(m.getName());
        }
        Due.same("public methods", open.size(), 35);
        for (Method m : NextDoorBrides.class.getDeclaredMethods()) {
            Due.yes(m.getName(), !Modifier.isPrivate(m.getModifiers()) || !open.contains(m.getName()));
        }
        for (Class<?> inside : NextDoorBrides.class.getDeclaredClasses()) {
            Due.yes(inside.getName() + " is static", Modifier.isStatic(inside.getModifiers()));
            Due.yes(inside.getName() + " is small", inside.getDeclaredFields().length < 40);
            for (Method m : inside.getDeclaredMethods()) {
                Due.no(inside.getName() + "." + m.getName() + " has a public name", open.contains(m.getName()));
                Due.yes(m.getName() + " takes few", m.getParameterCount() <= 7);
            }
        }
        Due.yes("few classes", NextDoorBrides.class.getDeclaredClasses().length <= 12);
        Due.same("constructors", NextDoorBrides.class.getConstructors().length, 1);
        Due.same("public fields", NextDoorBrides.class.getFields().length, 1);
    }

    private static void shortMethods(String source) {
        int start = 0;
        String[] lines = source.split("\n");
        for (int i = 0; i < lines.length; i++) {
            if (lines[i].matches("( {4}| {8})\\w.*\\) \\{")) {
                start = i;
            }
            if (lines[i].matches(" {4}( {4})?\\}")) {
                Due.yes("line " + (i + 1) + " ends a short method", i - start < 60 || lines[i].matches(" {4}\\}"));
            }
        }
    }

    /** Calls with any arguments whatever. */
    private static void nothingThrows() {
        Random dice = new Random(4);
        for (int run = 0; run < 300; run++) {
            NextDoorBrides x = new NextDoorBrides();
            for (int i = 0; i < 400; i++) {
                call(x, dice);
            }
        }
    }

    private static int any(Random dice) {
        switch (dice.nextInt(4)) {
            case 0: return dice.nextInt();
            case 1: return dice.nextInt(40) - 12;
            case 2: return dice.nextInt(10);
            default: return new int[] {0, -1, -2, Integer.MIN_VALUE, Integer.MAX_VALUE}[dice.nextInt(5)];
        }
    }

    private static void call(NextDoorBrides x, Random dice) {
        int a = any(dice);
        int b = any(dice);
        int c = any(dice);
        int d = any(dice);
        switch (dice.nextInt(36)) {
            case 0: x.state(a); break;
            case 1: x.house(a, b, c); break;
            case 2: x.set(a, b, c); break;
            case 3: x.act(a, b); break;
            case 4: x.years(a); break;
            case 5: x.feed(a, b, c, d, a); break;
            case 6: x.end(a); break;
            case 7: x.text(a); break;
            case 8: x.fault(a); break;
            case 9: x.of(a, b); break;
            case 10: x.book(a, b); break;
            case 11: x.goes(a, b); break;
            case 12: x.jug(a); break;
            case 13: x.meets(a, b, c, d); break;
            case 14: x.child(a); break;
            case 15: x.planned(a); break;
            case 16: x.siding(a, b); break;
            case 17: x.bought(a, b); break;
            case 18: x.rows(a, b); break;
            case 19: x.dowry(a); break;
            case 20: x.pushed(a); break;
            case 21: x.feuds(a); break;
            case 22: x.person(a, b); break;
            case 23: x.akin(a, b, c); break;
            case 24: x.home(a, b, c, d); break;
            case 25: x.streets(a, b, c); break;
            case 26: x.moved(a, b); break;
            case 27: x.chain(); break;
            case 28: x.order(a, b, c); break;
            case 29: x.height(a); break;
            case 30: x.windows(a); break;
            case 31: x.game(a, b, c); break;
            case 32: x.undo(); break;
            case 33: x.image(a > 0); break;
            case 34: x.house(dice.nextInt(5), dice.nextInt(5), dice.nextInt(50)); break;
            default: x.look(a); break;
        }
    }

    private static long madeSoFar() {
        com.sun.management.ThreadMXBean threads = (com.sun.management.ThreadMXBean) ManagementFactory.getThreadMXBean();
        return threads.getThreadAllocatedBytes(Thread.currentThread().getId());
    }

    /** All calls of a run live in one room: an object is small, and a call makes nothing. */
    private static void fewThingsAreMade() {
        madeSoFar();
        long before = madeSoFar();
        NextDoorBrides x = new NextDoorBrides();
        long object = madeSoFar() - before;
        Due.yes("an object takes " + object + " bytes", object < 24000);
        for (int i = 0; i < 16; i++) {
            x.house(3, 3, 50);
        }
        x.image(true);
        Due.tell(x, 0, "goes 900 when (girls > 1 or boys < 4) and not widow = 1;");
        // once before it is counted: the machine itself may make things at a first call
        busy(x);
        before = madeSoFar();
        busy(x);
        long made = madeSoFar() - before;
        Due.yes("calls take " + made + " bytes", made < 2000);
    }

    private static void busy(NextDoorBrides x) {
        x.years(60);
        x.goes(60, 3);
        x.jug(9);
        x.feed(0x676f6573, 0x20373b20, 0x20202020, 0x20202020, 0x20202020);
        x.text(0);
        x.text(2);
        x.feuds(0);
        x.feuds(1);
        x.person(-1, -1);
        x.akin(0, 0, 0);
        x.bought(1, 2);
        x.rows(9, 0);
        x.rows(9, 1);
        x.dowry(60);
        x.pushed(0);
        x.height(7);
        x.windows(2);
        x.chain();
        x.game(18, 0, 1);
        x.order(52, -1, 0);
        x.streets(12, 4, 1);
        x.home(4, 8, 25, 1);
        x.siding(1876543210, 1);
        x.meets(500, 9, 3, 1);
        x.undo();
        x.image(true);
        x.image(false);
    }
}

/** Promises 15 to 33: what is told for thought, its edges and its wrong inputs, with answers found by hand. */
public final class ThoughtTest {
    private static final int FAR = Given.FAR;
    private static final int LOW = Given.LOW;

    private ThoughtTest() {
    }

    public static void main(String[] args) {
        numbersByHand();
        childAndPlanned();
        boughtAndRows();
        dowryAndPushed();
        feuds();
        longestRow();
        personAndAkin();
        movedAndChain();
        heightAndWindows();
        Due.finish();
    }

    /** Promises 15, 18, 26, 27, 30, 33; NumbersTest goes through them widely. */
    private static void numbersByHand() {
        NextDoorBrides x = new NextDoorBrides();
        // doors 0 and 499 of 500: 499, 489, .. 9: passed over, never met
        Due.same("meets(500, 9, 499, 0)", x.meets(500, 9, 499, 0), -1);
        Due.same("meets(500, 9, 499, 1)", x.meets(500, 9, 499, 1), 1);
        Due.same("meets(500, 9, 490, 0)", x.meets(500, 9, 490, 0), 49);
        Due.same("meets(500, 9, 490, 1)", x.meets(500, 9, 490, 1), 0);
        Due.same("siding(112034, 1)", x.siding(112034, 1), -1);
        Due.same("siding(120134, 1)", x.siding(120134, 1), 1);
        Due.same("siding(110324, 1)", x.siding(110324, 1), 1);
        Due.same("siding(143210, 1)", x.siding(143210, 1), 4);
        Due.same("home(1, 8, 12, 1)", x.home(1, 8, 12, 1), 8);
        Due.same("home(2, 8, 12, 1)", x.home(2, 8, 12, 1), 4);
        Due.same("home(1, 2, 56, 0)", x.home(1, 2, 56, 0), 5);
        Due.same("home(1, 2, 24, 1)", x.home(1, 2, 24, 1), 2);
        Due.same("streets(5, 3, 0)", x.streets(5, 3, 0), 51);
        Due.same("streets(5, 3, 1)", x.streets(5, 3, 1), 39);
        Due.same("order(7, 6, 1)", x.order(7, 6, 1), 5);
        Due.same("order(6, -1, 9999)", x.order(6, -1, 9999), 4);
        Due.same("game(7, 0, 1)", x.game(7, 0, 1), 3);
        Due.same("game(5, 0, 1)", x.game(5, 0, 1), 2);
        Due.same("game(6, 5, 1)", x.game(6, 5, 1), 1);
        Due.same("game(2, 3, 0)", x.game(2, 3, 0), 0);
        Due.same("game(2, 3, 1)", x.game(2, 3, 1), -1);
    }

    private static void childAndPlanned() {
        NextDoorBrides x = new NextDoorBrides();
        for (int v : new int[] {2, -2, FAR, LOW}) {
            Due.same("child(" + v + ")", x.child(v), -1);
        }
        for (int i = 1; i <= 12; i++) {
            Due.same("child(0)", x.child(0), i);
            Due.same("planned(0)", x.planned(0), i / 2);
            Due.same("planned(1)", x.planned(1), i / 2);
        }
        Due.same("child(0), the thirteenth", x.child(0), -1);
        Due.same("child(1), the thirteenth", x.child(1), -1);
        Due.same("planned(0)", x.planned(0), 6);
        Due.same("child(NONE)", x.child(-1), 0);
        Due.same("planned(0)", x.planned(0), 0);
        Due.same("planned(1)", x.planned(1), 0);
        for (int v : new int[] {1, 1, 1, 0, 1}) {
            x.child(v);
        }
        Due.same("planned(0) of boys", x.planned(0), 0);
        Due.same("planned(1) of 1 1 1 0 1", x.planned(1), 1);
        for (int what : new int[] {-1, 2, FAR, LOW}) {
            Due.same("planned(" + what + ")", x.planned(what), -1);
        }
    }

    private static void boughtAndRows() {
        NextDoorBrides x = new NextDoorBrides();
        int[][] wrong = {{0, 0}, {8, 8}, {9, 0}, {0, 9}, {-2, 0}, {0, -1}, {FAR, 0}, {0, LOW}};
        for (int[] w : wrong) {
            Due.same("bought(" + w[0] + ", " + w[1] + ")", x.bought(w[0], w[1]), -1);
        }
        Due.same("rows(9, 0) of all", x.rows(9, 0), 362880);
        Due.same("rows(9, 1) of all", x.rows(9, 1), 362880);
        Due.same("bought(0, 8)", x.bought(0, 8), 1);
        Due.same("rows(8, 0), 8 is none of them", x.rows(8, 0), 40320);
        Due.same("rows(9, 0)", x.rows(9, 0), 80640);
        Due.same("rows(9, 1)", x.rows(9, 1), 40320);
        Due.same("bought(8, 0)", x.bought(8, 0), 2);
        Due.same("rows(9, 0), the same couple", x.rows(9, 0), 80640);
        Due.same("rows(9, 1), each behind the other", x.rows(9, 1), 0);
        Due.same("bought(NONE, 5)", x.bought(-1, 5), 0);
        x.bought(0, 1);
        x.bought(0, 1);
        Due.same("rows(4, 1), told twice", x.rows(4, 1), 6);
        x.bought(2, 1);
        Due.same("rows(4, 0), 1 between", x.rows(4, 0), 4);
        Due.same("rows(4, 1), two behind 1", x.rows(4, 1), 0);
        x.bought(2, 0);
        Due.same("rows(4, 0), a ring", x.rows(4, 0), 0);
        x.bought(-1, 0);
        x.bought(3, 0);
        x.bought(3, 1);
        Due.same("rows(4, 1), 3 behind two", x.rows(4, 1), 0);
        x.bought(3, 2);
        Due.same("rows(4, 0), three beside 3", x.rows(4, 0), 0);
        Due.same("rows(3, 0)", x.rows(3, 0), 6);
        x.bought(7, 8);
        x.bought(7, 8);
        Due.same("bought, the sixth", x.bought(7, 6), 6);
        Due.same("bought, the seventh", x.bought(1, 2), -1);
        for (int n : new int[] {1, 0, -1, 10, FAR, LOW}) {
            Due.same("rows(" + n + ", 0)", x.rows(n, 0), -1);
        }
        for (int what : new int[] {-1, 2, FAR, LOW}) {
            Due.same("rows(3, " + what + ")", x.rows(3, what), -1);
        }
    }

    private static void dowryAndPushed() {
        NextDoorBrides x = new NextDoorBrides();
        for (int v : new int[] {-2, 61, FAR, LOW}) {
            Due.same("dowry(" + v + ")", x.dowry(v), -1);
        }
        Due.same("dowry(60)", x.dowry(60), 1);
        Due.same("pushed(0) of 60 alone", x.pushed(0), 30);
        Due.same("pushed(1) of 60 alone", x.pushed(1), 0);
        Due.same("pushed(2), none such", x.pushed(2), -1);
        x.dowry(1);
        // the first and twice the second stay the same modulo 3: 62 as 0 1
        Due.same("pushed(1) of 60 1", x.pushed(1), 0);
        Due.same("pushed(2) of 60 1", x.pushed(2), 1);
        Due.same("dowry(NONE)", x.dowry(-1), 0);
        Due.same("pushed(0)", x.pushed(0), 0);
        Due.same("pushed(1)", x.pushed(1), -1);
        for (int i = 1; i <= 10; i++) {
            Due.same("dowry(60)", x.dowry(60), i);
        }
        Due.same("dowry(1), the eleventh", x.dowry(1), -1);
        // where all have given, at most one is left with nothing
        int left = 0;
        for (int i = 1; i <= 10; i++) {
            Due.yes("pushed(" + i + ") lies", x.pushed(i) == 0 || x.pushed(i) == 1);
            left += x.pushed(i);
        }
        Due.yes("left", left >= 9);
        Due.same("pushed(11)", x.pushed(11), -1);
        x.dowry(-1);
        x.dowry(1);
        x.dowry(1);
        x.dowry(2);
        // 1 1 2 : 1 2 0 : 2 0 1 : 0 1 1
        Due.same("pushed(0) of 1 1 2", x.pushed(0), 3);
        Due.same("pushed(1) of 1 1 2", x.pushed(1), 0);
        Due.same("pushed(2) of 1 1 2", x.pushed(2), 1);
        Due.same("pushed(3) of 1 1 2", x.pushed(3), 1);
        for (int what : new int[] {-1, 4, FAR, LOW}) {
            Due.same("pushed(" + what + ")", x.pushed(what), -1);
        }
    }

    private static void feuds() {
        NextDoorBrides x = new NextDoorBrides();
        x.house(0, 0, 0);
        Due.same("feuds(0), one alone", x.feuds(0), 1);
        Due.same("feuds(1), one alone", x.feuds(1), 1);
        x.house(0, 0, 0);
        Due.same("feuds(0), two in peace", x.feuds(0), 0);
        Due.same("feuds(1), two in peace", x.feuds(1), 1);
        x.house(0, 0, 0);
        Due.tell(x, 2, "house 0 feud 1; house 1 feud 2; house 2 feud 0;");
        Due.same("feuds(0), a ring", x.feuds(0), 7);
        Due.same("feuds(1), a ring", x.feuds(1), 3);
        Due.tell(x, 2, "house 0 feud 1; house 1 feud 2; house 2 feud 1;");
        Due.same("feuds(0), both ways is neither above", x.feuds(0), 0);
        Due.same("feuds(1)", x.feuds(1), 2);
        Due.tell(x, 2, "house 2 feud 1; house 1 feud 0;");
        Due.same("feuds(0), over one", x.feuds(0), 4);
        for (int what : new int[] {-1, 2, FAR, LOW}) {
            Due.same("feuds(" + what + ")", x.feuds(what), -1);
        }
    }

    private static void longestRow() {
        NextDoorBrides x = new NextDoorBrides();
        for (int i = 0; i < 16; i++) {
            x.house(0, 0, 0);
        }
        StringBuilder text = new StringBuilder();
        for (int i = 0; i < 15; i++) {
            text.append("house ").append(i).append(" feud ").append(i + 1).append(";");
        }
        Due.lines(x, 2, text.toString(), 15);
        Due.same("feuds(1), of the first twelve alone", x.feuds(1), 12);
        Due.same("feuds(0), sixteen in a row", x.feuds(0), 0);
        Due.tell(x, 2, "house 15 feud 14; house 14 feud 13; house 13 feud 12; house 11 feud 12; house 12 feud 10;");
        Due.same("feuds(1), not over others", x.feuds(1), 1);
        StringBuilder king = new StringBuilder();
        for (int i = 0; i < 15; i++) {
            king.append("house 15 feud ").append(i).append(";");
        }
        Due.lines(x, 2, king.toString(), 15);
        Due.same("feuds(0), the last above all", x.feuds(0), 1 << 15);
    }

    private static void person(NextDoorBrides x, int a, int b, int due) {
        Due.same("person(" + a + ", " + b + ")", x.person(a, b), due);
    }

    private static void akin(NextDoorBrides x, int i, int j, int above, int below) {
        Due.same("akin(" + i + ", " + j + ", 0)", x.akin(i, j, 0), above);
        Due.same("akin(" + i + ", " + j + ", 1)", x.akin(i, j, 1), below);
        Due.same("akin(" + j + ", " + i + ", 0)", x.akin(j, i, 0), above);
        Due.same("akin(" + j + ", " + i + ", 1)", x.akin(j, i, 1), below);
    }

    private static void personAndAkin() {
        NextDoorBrides x = new NextDoorBrides();
        person(x, 0, 0, -1);
        person(x, -1, -1, 0);
        person(x, -1, -1, 1);
        int[][] wrong = {{0, -1}, {-1, 0}, {0, 0}, {0, 2}, {2, 0}, {-2, 0}, {0, -2}, {-2, -2}, {FAR, 0}, {0, LOW}, {-9, -1}, {-11, -1}};
        for (int[] w : wrong) {
            person(x, w[0], w[1], -1);
        }
        person(x, 1, 0, 2);
        person(x, 2, 0, 3);
        person(x, -1, -1, 4);
        akin(x, 0, 0, 1, 2);
        akin(x, 2, 2, 1, 2);
        akin(x, 2, 0, 1, 4);
        akin(x, 3, 2, 3, 8);
        akin(x, 3, 0, 3, 8);
        akin(x, 3, 1, 1, 8);
        akin(x, 3, 3, 5, 8);
        akin(x, 4, 3, 0, 1);
        for (int i = 5; i < 14; i++) {
            person(x, i - 1, i - 2, i);
        }
        person(x, -1, -1, -1);
        person(x, 0, 1, -1);
        Due.yes("akin(13, 13, 1) is a power of two", Integer.bitCount(x.akin(13, 13, 1)) == 1);
        int[] none = {-1, 14, FAR, LOW};
        for (int i : none) {
            Due.same("akin(" + i + ", 0, 0)", x.akin(i, 0, 0), -1);
            Due.same("akin(0, " + i + ", 0)", x.akin(0, i, 0), -1);
        }
        Due.same("akin(0, 0, 2)", x.akin(0, 0, 2), -1);
        Due.same("akin(0, 0, -1)", x.akin(0, 0, -1), -1);
        person(x, -10, 3, 0);
        Due.same("akin(0, 0, 0), none is then", x.akin(0, 0, 0), -1);
        person(x, -1, -1, 0);
    }

    private static void movedAndChain() {
        NextDoorBrides x = new NextDoorBrides();
        int[][] wrong = {{0, 0}, {9, 9}, {-1, 0}, {10, 0}, {0, 10}, {0, -3}, {FAR, 0}, {LOW, 0}, {0, FAR}, {0, LOW}, {-1, -1}};
        for (int[] w : wrong) {
            Due.no("moved(" + w[0] + ", " + w[1] + ")", x.moved(w[0], w[1]));
        }
        for (int i = 0; i < 10; i++) {
            Due.yes("moved", x.moved(i, (i + 1) % 10));
        }
        Due.same("chain(), all round", x.chain(), 10);
        Due.yes("moved(9, NONE)", x.moved(9, -1));
        Due.same("chain(), one stays", x.chain(), 0);
        Due.yes("moved(9, NONE - 1)", x.moved(9, -2));
        Due.same("chain(), into an empty one", x.chain(), 9);
        Due.yes("moved(4, NONE - 1)", x.moved(4, -2));
        Due.same("chain(), into two", x.chain(), 8);
        Due.yes("moved(4, 3)", x.moved(4, 3));
        Due.same("chain(), two change places and 5 .. 8 move on", x.chain(), 6);
        Due.yes("moved(0, 3)", x.moved(0, 3));
        Due.same("chain(), none breaks into a ring", x.chain(), 6);
    }

    private static void heightAndWindows() {
        NextDoorBrides x = new NextDoorBrides();
        for (int v : new int[] {0, -2, 61, FAR, LOW}) {
            Due.same("height(" + v + ")", x.height(v), -1);
        }
        for (int i = 1; i <= 10; i++) {
            Due.same("height", x.height(i == 1 ? 60 : 5), i);
        }
        Due.same("height(1), the eleventh", x.height(1), -1);
        Due.same("windows(0), alike ones hide", x.windows(0), 9);
        Due.same("windows(1)", x.windows(1), 2);
        Due.same("windows(2)", x.windows(2), 10);
        Due.same("height(NONE)", x.height(-1), 0);
        Due.same("windows(1), none", x.windows(1), 0);
        for (int i = 1; i <= 10; i++) {
            x.height(i);
        }
        Due.same("windows(2), all sets", x.windows(2), 1023);
        Due.same("windows(0), upwards", x.windows(0), 9);
        x.height(-1);
        for (int v : new int[] {9, 1, 2, 3, 9}) {
            x.height(v);
        }
        // 9-1 9-2 9-3 9-9 1-2 2-3 3-9
        Due.same("windows(0)", x.windows(0), 7);
        Due.same("windows(1)", x.windows(1), 4);
        Due.same("windows(2)", x.windows(2), 16);
        for (int what : new int[] {-1, 3, FAR, LOW}) {
            Due.same("windows(" + what + ")", x.windows(what), -1);
        }
    }
}

/** Boundary cases of "Terms" 1 and of the promises 1 to 4, 11 and 36, sentence by sentence. */
public final class HouseEdgesTest {
    private static final int FAR = Given.FAR;
    private static final int LOW = Given.LOW;

    private HouseEdgesTest() {
    }

    public static void main(String[] args) {
        quotients();
        stateAtFirst();
        drawsWrap();
        drawsWithoutSign();
        sixteenHouses();
        nextOfASide();
        theSeaBehindASide();
        boundsOfAHouse();
        atFirst();
        jugAtFirst();
        aNewObject();
        stateIsTold();
        houseThatCantBe();
        setWithinBounds();
        setThatCantBe();
        ofNoneSuch();
        ofTheSea();
        ofASet();
        lookAtEach();
        lookAtAnother();
        fiveHundredAndTwelveCalls();
        Due.finish();
    }

    private static void quotients() {
        Due.says("Quotients go downwards.");
        int[][] halves = {{0, 0}, {1, 0}, {2, 1}, {3, 1}, {9998, 4999}, {9999, 4999}};
        for (int[] half : halves) {
            NextDoorBrides x = Given.houses(1, 0, 0, half[0]);
            Due.same("of(0, 10), a dowry of " + half[0] + " by 2", x.of(0, 10), half[1]);
        }
        NextDoorBrides y = new NextDoorBrides();
        Due.same("meets(10, 1, -1, 0): a would be -1, not 0", y.meets(10, 1, -1, 0), -1);
        Due.same("meets(500, 1, -996, 0): a would be -1, b 4", y.meets(500, 1, -996, 0), -1);
        Due.same("meets(500, 1, -1000, 0): a would be -1, b 0", y.meets(500, 1, -1000, 0), -1);
    }

    private static void stateAtFirst() {
        Due.says("STATE of draws (an int, 0 at first)");
        NextDoorBrides x = new NextDoorBrides();
        Due.same("look(8)", x.look(8), 0);
        Due.same("state(least)", x.state(LOW), 0);
        Due.same("state(most)", x.state(FAR), LOW);
        Due.same("state(0)", x.state(0), FAR);
    }

    /** The state behind one draw: that of a girl who may go to the sea. */
    private static int behindADraw(int state) {
        NextDoorBrides x = Given.houses(1, 1, 0, 0);
        x.state(state);
        x.years(1);
        return x.look(8);
    }

    private static void drawsWrap() {
        Due.says("it becomes 1664525 times itself + 1013904223 (ints, which wrap)");
        Due.same("a draw from 0", behindADraw(0), 1013904223);
        Due.same("a draw from 1", behindADraw(1), 1015568748);
        Due.same("a draw from -1", behindADraw(-1), 1012239698);
        Due.same("a draw from 1013904223", behindADraw(1013904223), 1196435762);
        Due.same("a draw from 1196435762", behindADraw(1196435762), -775096599);
        Due.same("a draw from the most", behindADraw(FAR), -1135243950);
        Due.same("a draw from the least", behindADraw(LOW), -1133579425);
    }

    /** Whether a girl goes to the sea from this state by a law of so much. */
    private static int goneBy(int state, int goes) {
        NextDoorBrides x = Given.houses(1, 1, 0, 0);
        x.state(state);
        Due.tell(x, 0, "goes " + goes + ";");
        x.years(1);
        return x.look(2);
    }

    private static void drawsWithoutSign() {
        Due.says("then it is its highest 24 bits (without sign) modulo m");
        // state, and its next draw of 1000
        int[][] draws = {{0, 563}, {1013904223, 577}, {1196435762, 494}, {-775096599, 947}, {-1426500812, 749},
            {1649599747, 198}, {1476291629, 15}, {-1, 61}, {FAR, 669}, {LOW, 171}};
        for (int[] draw : draws) {
            Due.same("a draw of 1000 from " + draw[0] + " below " + draw[1], goneBy(draw[0], draw[1]), 0);
            Due.same("a draw of 1000 from " + draw[0] + " below " + (draw[1] + 1), goneBy(draw[0], draw[1] + 1), 1);
        }
        // state, and its next draw of 2: one child of one couple
        int[][] children = {{0, 1}, {1013904223, 1}, {1196435762, 0}, {-775096599, 1}, {1649599747, 0}, {-1624324474, 0}, {LOW, 1}};
        for (int[] child : children) {
            NextDoorBrides x = Given.houses(1, 0, 0, 0);
            Due.tell(x, 0, "bears 1;");
            x.set(3, 0, 1);
            x.state(child[0]);
            x.years(1);
            Due.same("boys by a draw of 2 from " + child[0], x.of(0, 1), child[1]);
            Due.same("girls by a draw of 2 from " + child[0], x.of(0, 0), 1 - child[1]);
        }
    }

    private static void sixteenHouses() {
        Due.says("HOUSES 0 .. 15 as they come");
        NextDoorBrides x = new NextDoorBrides();
        for (int i = 0; i < 16; i++) {
            Due.same("house", x.house(0, 0, i), i);
            Due.same("look(0)", x.look(0), i + 1);
        }
        Due.same("the seventeenth", x.house(0, 0, 16), -1);
        Due.same("look(0)", x.look(0), 16);
        for (int i = 0; i < 16; i++) {
            Due.same("of(" + i + ", 2)", x.of(i, 2), i);
        }
        Due.same("of(16, 2)", x.of(16, 2), -2);
    }

    private static void nextOfASide() {
        Due.says("SIDE 0 (its girls go to the next greater number of SIDE 0), 1 (its girls go to the next lesser number of SIDE 1)");
        NextDoorBrides x = Given.houses(16, 1, 1, 0);
        Due.tell(x, 3, "house 0 side 1; house 5 side 1; house 6 side 1; house 15 side 1;");
        int[] to = {-1, 2, 3, 4, 7, 0, 5, 8, 9, 10, 11, 12, 13, 14, -1, 6};
        for (int who = 0; who < 16; who++) {
            Due.same("of(" + who + ", 7)", x.of(who, 7), to[who]);
        }
    }

    private static void theSeaBehindASide() {
        Due.says("behind the last one of a SIDE is the sea");
        NextDoorBrides x = Given.houses(1, 1, 1, 0);
        Due.same("of(0, 7), one house", x.of(0, 7), -1);
        Due.tell(x, 3, "house 0 side 1;");
        Due.same("of(0, 7), one house of side 1", x.of(0, 7), -1);
        x.house(1, 1, 0);
        Due.same("of(1, 7), the last of side 0", x.of(1, 7), -1);
        Due.tell(x, 3, "house 0 side 1; house 1 side 1;");
        Due.same("of(1, 7)", x.of(1, 7), 0);
        Due.same("of(0, 7), the last of side 1", x.of(0, 7), -1);
        Due.tell(x, 3, "");
        Due.same("of(0, 7)", x.of(0, 7), 1);
        Due.same("of(1, 7)", x.of(1, 7), -1);
        x.house(1, 1, 0);
        Due.same("of(1, 7), no longer the last", x.of(1, 7), 2);
        Due.tell(x, 3, "house 2 side 1;");
        Due.same("of(1, 7), past the other side", x.of(1, 7), -1);
        Due.same("of(2, 7), past the other side", x.of(2, 7), -1);
        Due.yes("act(0, 1)", x.act(0, 1));
        Due.yes("act(0, 2)", x.act(0, 2));
        Due.same("both to the sea", x.look(2), 2);
    }

    private static void boundsOfAHouse() {
        Due.says("GIRLS, BOYS 0 .. 9 (unmarried), COUPLES 0 .. 9 (0 at first), DOWRY 0 .. 9999");
        NextDoorBrides x = new NextDoorBrides();
        Due.same("house(0, 0, 0)", x.house(0, 0, 0), 0);
        Due.same("house(9, 9, 9999)", x.house(9, 9, 9999), 1);
        Given.houseIs(x, 0, 0, 0, 0, 0);
        Given.houseIs(x, 1, 9, 9, 9999, 0);
        Due.yes("set(3, 0, 9)", x.set(3, 0, 9));
        Due.same("of(0, 3)", x.of(0, 3), 9);
        Due.no("set(3, 0, 10)", x.set(3, 0, 10));
        Due.same("of(0, 3)", x.of(0, 3), 9);
    }

    private static void atFirst() {
        Due.says("LINEN (the number of the HOUSE from which it came first, its own at first; NONE: none), WIDOW 0, 1 (0 at first)");
        NextDoorBrides x = Given.houses(16, 1, 1, 7);
        for (int who = 0; who < 16; who++) {
            Due.same("of(" + who + ", 5)", x.of(who, 5), who);
            Due.same("of(" + who + ", 4)", x.of(who, 4), 0);
            Due.same("of(" + who + ", 3)", x.of(who, 3), 0);
        }
        // that of house 0 goes on from hand to hand and is still that of house 0
        x.act(0, 0);
        x.act(0, 1);
        Due.same("of(0, 5)", x.of(0, 5), -1);
        Due.same("of(1, 5)", x.of(1, 5), -1);
        Due.same("of(2, 5)", x.of(2, 5), 0);
    }

    private static void jugAtFirst() {
        Due.says("JUG (at HOUSE 0 at first, as soon as there is one; else NONE)");
        NextDoorBrides x = new NextDoorBrides();
        Due.same("look(4) without houses", x.look(4), -1);
        x.years(1);
        x.house(0, 0, 10000);
        Due.same("look(4) behind a house that can't be", x.look(4), -1);
        x.house(0, 0, 0);
        Due.same("look(4) with the first", x.look(4), 0);
        x.house(0, 0, 0);
        Due.same("look(4) with the second", x.look(4), 0);
        x.act(4, 1);
        x.house(0, 0, 0);
        Due.same("look(4), put elsewhere", x.look(4), 1);
    }

    private static void aNewObject() {
        Due.says("A street without houses.");
        NextDoorBrides x = new NextDoorBrides();
        int[] due = {0, 0, 0, 0, -1, 0, 0, 0, 0, 0, 0, 0, 0, 0};
        for (int what = 0; what < due.length; what++) {
            Due.same("look(" + what + ")", x.look(what), due[what]);
        }
        for (int what = 0; what <= 11; what++) {
            Due.same("of(0, " + what + ")", x.of(0, what), -2);
        }
        for (int what = 0; what <= 3; what++) {
            Due.same("book(0, " + what + ")", x.book(0, what), -1);
            Due.same("goes(60, " + what + ")", x.goes(60, what), 0);
        }
        for (int what = 0; what <= 4; what++) {
            Due.no("set(" + what + ", 0, 0)", x.set(what, 0, 0));
            Due.no("act(" + what + ", 0)", x.act(what, 0));
        }
        Due.same("jug(0)", x.jug(0), -1);
        Due.same("feuds(0)", x.feuds(0), 0);
        Due.same("feuds(1)", x.feuds(1), 0);
        Due.same("planned(0)", x.planned(0), 0);
        Due.same("pushed(0)", x.pushed(0), 0);
        Due.same("windows(0)", x.windows(0), 0);
        Due.same("chain()", x.chain(), 0);
        Due.same("akin(0, 0, 0)", x.akin(0, 0, 0), -1);
        Due.same("rows(2, 0)", x.rows(2, 0), 2);
        Due.no("undo()", x.undo());
        Due.no("image(false)", x.image(false));
        Due.no("end(1)", x.end(1));
        Due.same("years(60)", x.years(60), 0);
        Due.same("look(6)", x.look(6), 60);
        Due.same("look(8), nobody drew", x.look(8), 0);
        Due.same("look(7)", x.look(7), 0);
    }

    private static void stateIsTold() {
        Due.says("STATE is told: what it was.");
        NextDoorBrides x = new NextDoorBrides();
        int was = 0;
        for (int v : new int[] {-1, -2, -100000, LOW, FAR, 0, 1}) {
            Due.same("state(" + v + ")", x.state(v), was);
            Due.same("look(8)", x.look(8), v);
            was = v;
        }
    }

    private static void houseThatCantBe() {
        Due.says("A HOUSE: the number; NONE if one can't be, or there are sixteen.");
        NextDoorBrides x = Given.houses(1, 1, 2, 3);
        x.act(1, 0);
        String before = Seen.all(x);
        int[][] wrong = {{-1, 0, 0}, {10, 0, 0}, {0, -1, 0}, {0, 10, 0}, {0, 0, -1}, {0, 0, 10000},
            {LOW, 0, 0}, {FAR, 0, 0}, {0, LOW, 0}, {0, FAR, 0}, {0, 0, LOW}, {0, 0, FAR}};
        for (int[] w : wrong) {
            Due.same("house(" + w[0] + ", " + w[1] + ", " + w[2] + ")", x.house(w[0], w[1], w[2]), -1);
        }
        Due.same("all", Seen.all(x), before);
        NextDoorBrides y = Given.houses(16, 1, 2, 3);
        y.act(1, 15);
        before = Seen.street(y);
        Due.same("house(0, 0, 0), the seventeenth", y.house(0, 0, 0), -1);
        Due.same("house(9, 9, 9999), the seventeenth", y.house(9, 9, 9999), -1);
        Due.same("all", Seen.street(y), before);
        Due.same("look(13)", y.look(13), 1);
    }

    private static void setWithinBounds() {
        Due.says("What 0 GIRLS, 1 BOYS, 2 DOWRY, 3 COUPLES, 4 WIDOW of HOUSE who: true");
        int[] most = {9, 9, 9999, 9, 1};
        NextDoorBrides x = Given.houses(16, 1, 1, 1);
        for (int who : new int[] {0, 15}) {
            for (int what = 0; what <= 4; what++) {
                Due.yes("set(" + what + ", " + who + ", " + most[what] + ")", x.set(what, who, most[what]));
                Due.same("of(" + who + ", " + what + ")", x.of(who, what), most[what]);
                Due.yes("set(" + what + ", " + who + ", 0)", x.set(what, who, 0));
                Due.same("of(" + who + ", " + what + ")", x.of(who, what), 0);
            }
        }
        Given.houseIs(x, 1, 1, 1, 1, 0, 0, 1);
        Given.houseIs(x, 14, 1, 1, 1, 0, 0, 14);
    }

    private static void setThatCantBe() {
        Due.says("false if one can't be, or another what.");
        int[] most = {9, 9, 9999, 9, 1};
        NextDoorBrides x = Given.houses(2, 4, 5, 6);
        x.act(1, 1);
        String before = Seen.all(x);
        for (int what = 0; what <= 4; what++) {
            for (int v : new int[] {-1, most[what] + 1, LOW, FAR}) {
                Due.no("set(" + what + ", 1, " + v + ")", x.set(what, 1, v));
            }
            for (int who : new int[] {-1, 2, 16, LOW, FAR}) {
                Due.no("set(" + what + ", " + who + ", 1)", x.set(what, who, 1));
            }
        }
        for (int what : new int[] {-1, 5, 6, LOW, FAR}) {
            Due.no("set(" + what + ", 0, 0)", x.set(what, 0, 0));
            Due.no("set(" + what + ", 0, 1)", x.set(what, 0, 1));
        }
        Due.same("all", Seen.all(x), before);
    }

    private static void ofNoneSuch() {
        Due.says("NONE - 1 if there is none such, or another what.");
        NextDoorBrides x = Given.houses(2, 4, 5, 6);
        for (int what = 0; what <= 11; what++) {
            for (int who : new int[] {-1, 2, 15, 16, LOW, FAR}) {
                Due.same("of(" + who + ", " + what + ")", x.of(who, what), -2);
            }
            Due.no("of(1, " + what + ") is another answer", x.of(1, what) == -2);
        }
        for (int what : new int[] {-1, 12, 13, LOW, FAR}) {
            Due.same("of(0, " + what + ")", x.of(0, what), -2);
        }
        NextDoorBrides y = Given.houses(16, 4, 5, 6);
        Due.same("of(15, 0)", y.of(15, 0), 4);
        Due.same("of(16, 0)", y.of(16, 0), -2);
    }

    private static void ofTheSea() {
        Due.says("7 TO (NONE: the sea)");
        NextDoorBrides x = Given.houses(16, 0, 0, 0);
        Due.same("of(0, 7)", x.of(0, 7), 1);
        Due.same("of(14, 7)", x.of(14, 7), 15);
        Due.same("of(15, 7)", x.of(15, 7), -1);
    }

    private static void ofASet() {
        Due.says("11 HOUSES with which it has a feud (a set)");
        NextDoorBrides x = Given.houses(16, 0, 0, 0);
        Due.same("of(0, 11), none", x.of(0, 11), 0);
        Due.tell(x, 2, "house 0 feud 15; house 15 feud 0; house 15 feud 14; house 15 feud 14;");
        Due.same("of(0, 11)", x.of(0, 11), 1 << 15);
        Due.same("of(15, 11)", x.of(15, 11), 1 | 1 << 14);
        Due.same("of(14, 11), of which only the other has one", x.of(14, 11), 0);
        StringBuilder all = new StringBuilder();
        for (int with = 0; with < 16; with++) {
            all.append(with == 7 ? "" : "house 7 feud " + with + ";");
        }
        Due.lines(x, 2, all.toString(), 15);
        Due.same("of(7, 11), all others", x.of(7, 11), 0xffff - (1 << 7));
        Due.same("of(15, 11), no longer", x.of(15, 11), 0);
    }

    private static void lookAtEach() {
        Due.says("5 those with a WIDOW (a set)");
        NextDoorBrides x = Given.houses(16, 0, 0, 0);
        Due.same("look(5)", x.look(5), 0);
        x.set(4, 0, 1);
        x.set(4, 15, 1);
        Due.same("look(5)", x.look(5), 1 | 1 << 15);
        for (int who = 0; who < 16; who++) {
            x.set(4, who, 1);
        }
        Due.same("look(5)", x.look(5), 0xffff);
        Due.says("(STATE as it is.)");
        for (int v : new int[] {-1, -2, -100000, LOW, FAR}) {
            x.state(v);
            Due.same("look(8)", x.look(8), v);
        }
    }

    private static void lookAtAnother() {
        Due.says("NONE - 99999 for another what.");
        NextDoorBrides x = Given.houses(2, 1, 1, 1);
        for (int what : new int[] {-1, 14, 15, -100000, LOW, FAR}) {
            Due.same("look(" + what + ")", x.look(what), -100000);
        }
        for (int what = 0; what <= 13; what++) {
            Due.no("look(" + what + ") is another answer", x.look(what) == -100000);
        }
    }

    private static void fiveHundredAndTwelveCalls() {
        Due.says("An object is used for at most 512 calls after it has been made");
        NextDoorBrides x = new NextDoorBrides();
        x.house(0, 0, 0);
        x.years(60);
        for (int call = 3; call <= 510; call += 2) {
            Due.yes("act(1, 0)", x.act(1, 0));
            Due.yes("undo()", x.undo());
        }
        Due.yes("act(1, 0), the 511th", x.act(1, 0));
        Due.same("of(0, 0), the 512th", x.of(0, 0), 1);
    }
}

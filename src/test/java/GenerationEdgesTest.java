/** Boundary cases of "Terms" 3 and of the promises 5, 6 and 12, sentence by sentence. */
public final class GenerationEdgesTest {
    private static final int FAR = Given.FAR;
    private static final int LOW = Given.LOW;

    private GenerationEdgesTest() {
    }

    public static void main(String[] args) {
        plannedChildren();
        plannedWidows();
        plannedGifts();
        plannedJug();
        plansLineByLine();
        houseByHouse();
        whereSheCanGo();
        toTheSeaAlways();
        sheCant();
        goesAboveZero();
        oneGirlAYear();
        bringsIsAsked();
        dowryAtMost();
        coupleAndWedding();
        linenIfThereIsSome();
        jugWithHer();
        seaTakesAll();
        bearsForEachCouple();
        childrenAtMost();
        couplesOnlyThen();
        whoBecomesAWidow();
        byHandIsNoComing();
        generationIsOneMore();
        wedByHand();
        noLinesByHand();
        bookIsFull();
        linesOfTheBook();
        actThatCantBe();
        yearsWithinBounds();
        yearsUpToTheLast();
        howManyWeddings();
        bookOfNoneSuch();
        Due.finish();
    }

    private static NextDoorBrides lawful(String law, int[]... houses) {
        NextDoorBrides x = Given.street(houses);
        Due.tell(x, 0, law);
        return x;
    }

    private static void plannedChildren() {
        Due.says("girl, boy: one more (9 at most)");
        NextDoorBrides x = lawful("goes 0;", Given.h(8, 8, 0), Given.h(0, 0, 0));
        Due.tell(x, 1, "in 0 girl 0;in 0 boy 0;in 1 girl 0;in 1 boy 0;in 1 girl 1;in 1 girl 1;in 1 boy 1;in 2 boy 1;");
        x.years(1);
        Given.houseIs(x, 0, 9, 9);
        Given.houseIs(x, 1, 0, 0);
        x.years(1);
        Given.houseIs(x, 0, 9, 9);
        Given.houseIs(x, 1, 2, 1);
        x.years(1);
        Given.houseIs(x, 1, 2, 2);
    }

    private static void plannedWidows() {
        Due.says("widow, comfort: WIDOW 1, 0");
        NextDoorBrides x = lawful("goes 0;", Given.h(0, 0, 0), Given.h(0, 0, 0));
        Due.tell(x, 1, "in 0 comfort 0;in 0 widow 1;in 1 widow 0;in 1 widow 1;in 2 comfort 0;in 2 comfort 1;");
        int[] widows = {2, 3, 0, 0};
        for (int year = 0; year < widows.length; year++) {
            x.years(1);
            Due.same("look(5)", x.look(5), widows[year]);
        }
        Due.reads("only a WIDOW of (d) is a line of THE BOOK");
        Due.same("look(7)", x.look(7), 0);
    }

    private static void plannedGifts() {
        Due.says("give: DOWRY N more (9999 at most)");
        int[][] gifts = {{0, 1, 1}, {0, 999, 999}, {8999, 999, 9998}, {9000, 999, 9999}, {9001, 999, 9999}, {9998, 1, 9999}, {9999, 1, 9999}};
        for (int[] gift : gifts) {
            NextDoorBrides x = Given.street(Given.h(0, 0, 0), Given.h(0, 0, gift[0]));
            Due.tell(x, 1, "in 0 give 1 " + gift[1] + ";");
            x.years(1);
            Due.same("of(1, 2) of " + gift[0] + " and " + gift[1], x.of(1, 2), gift[2]);
        }
    }

    private static void plannedJug() {
        Due.says("jug: the JUG is there");
        NextDoorBrides x = Given.houses(16, 0, 0, 0);
        Due.tell(x, 1, "in 0 jug 15;in 1 jug 15;in 2 jug 0;in 2 jug 7;");
        int[] where = {15, 15, 7, 7};
        for (int year = 0; year < where.length; year++) {
            x.years(1);
            Due.same("look(4)", x.look(4), where[year]);
        }
    }

    private static void plansLineByLine() {
        Due.says("(a) Line by line of PLANS for it");
        NextDoorBrides x = Given.houses(2, 0, 0, 0);
        Due.tell(x, 1, "in 1 widow 0;in 1 comfort 0;in 1 comfort 1;in 1 widow 1;in 3 give 0 5;in 2 give 0 7;");
        int[] widows = {0, 2, 2, 2, 2};
        int[] dowries = {0, 0, 7, 12, 12};
        for (int year = 0; year < widows.length; year++) {
            x.years(1);
            Due.same("look(5)", x.look(5), widows[year]);
            Due.same("of(0, 2)", x.of(0, 2), dowries[year]);
        }
        // ahead of all else: a girl, a boy and a comforted widow of the same generation are there in (b)
        NextDoorBrides y = lawful("goes 1000;bears 0;", Given.h(0, 0, 0), Given.h(0, 0, 0));
        y.set(4, 1, 1);
        Due.tell(y, 1, "in 0 comfort 1;in 0 boy 1;in 0 girl 0;");
        Due.same("years(1)", y.years(1), 1);
    }

    private static void houseByHouse() {
        Due.says("(b) HOUSE by HOUSE (by number) that has a girl");
        // what house 1 is brought goes on with its own girl in the same generation
        NextDoorBrides x = lawful("goes 1000;bears 0;brings dowry;", Given.h(1, 0, 100), Given.h(1, 1, 20), Given.h(1, 1, 3));
        Due.same("years(1)", x.years(1), 2);
        Given.houseIs(x, 0, 0, 0, 0, 0, 0, -1);
        Given.houseIs(x, 1, 0, 0, 0, 0, 0, -1);
        Given.houseIs(x, 2, 0, 0, 0, 0, 0, -1);
        Given.bookIs(x, 0, 0, 0, 0, 100);
        Given.bookIs(x, 1, 0, 0, 1, 120);
        Given.bookIs(x, 2, 0, 1, 2, 123);
        Due.same("look(4), through all hands", x.look(4), 2);
        // to the other side they go by number, too
        NextDoorBrides y = lawful("goes 1000;bears 0;brings dowry;", Given.h(1, 1, 100), Given.h(1, 1, 20), Given.h(1, 0, 3));
        Due.tell(y, 3, "house 0 side 1;house 1 side 1;house 2 side 1;");
        y.act(4, 2);
        Due.same("years(1)", y.years(1), 2);
        Given.houseIs(y, 0, 0, 0, 20, 0, 0, 1);
        Given.houseIs(y, 1, 0, 0, 3, 0, 0, 2);
        Given.bookIs(y, 0, 0, 1, 0, 100);
        Given.bookIs(y, 1, 0, 0, 1, 20);
        Given.bookIs(y, 2, 0, 0, 2, 3);
        Due.same("look(4), one door", y.look(4), 1);
        // without a girl nothing is asked
        NextDoorBrides z = lawful("goes 1000;", Given.h(0, 0, 100), Given.h(0, 0, 20));
        z.years(1);
        Due.same("look(3)", z.look(3), 0);
        Due.same("look(8)", z.look(8), 0);
        Due.same("look(7)", z.look(7), 0);
    }

    private static void whereSheCanGo() {
        Due.says("To a HOUSE she can go, if it has a boy, no WIDOW, and neither has a feud with the other");
        for (int boys = 0; boys <= 1; boys++) {
            for (int widow = 0; widow <= 1; widow++) {
                for (int feud = 0; feud <= 3; feud++) {
                    NextDoorBrides x = lawful("goes 1000;bears 0;", Given.h(1, 0, 0), Given.h(0, boys, 0), Given.h(0, 1, 0));
                    x.set(4, 1, widow);
                    String text = (feud & 1) == 1 ? "house 0 feud 1;" : "";
                    Due.tell(x, 2, text + ((feud & 2) == 2 ? "house 1 feud 0;" : "") + "house 0 feud 2;house 2 feud 0;house 1 feud 2;");
                    boolean can = boys == 1 && widow == 0 && feud == 0;
                    String all = boys + " boys, " + widow + " widow, feud " + feud;
                    Due.same("goes in thought with " + all, x.goes(1, 0), can ? 1 : 0);
                    Due.same("act with " + all, x.act(0, 0) ? 1 : 0, can ? 1 : 0);
                    x.undo();
                    Due.same("years with " + all, x.years(1), can ? 1 : 0);
                    Due.same("gaps with " + all, x.look(3), can ? 0 : 1);
                }
            }
        }
        // a feud of either with the other, at the far end of the street and to the other side
        String[] feuds = {"house 14 feud 15;", "house 15 feud 14;", "house 14 feud 13;house 15 feud 13;house 13 feud 15;"};
        for (int i = 0; i < feuds.length; i++) {
            NextDoorBrides far = Given.houses(16, 1, 1, 0);
            Due.tell(far, 2, feuds[i]);
            Due.same("act(0, 14) by '" + feuds[i] + "'", far.act(0, 14) ? 1 : 0, i == 2 ? 1 : 0);
            far.set(1, 15, 1);
            Due.tell(far, 3, "house 14 side 1;house 15 side 1;");
            Due.same("act(0, 15) by '" + feuds[i] + "'", far.act(0, 15) ? 1 : 0, i == 2 ? 1 : 0);
        }
        // her own house's WIDOW does not hold her
        NextDoorBrides y = lawful("goes 1000;bears 0;", Given.h(1, 0, 0), Given.h(0, 1, 0));
        y.set(4, 0, 1);
        Due.same("years(1) from a widow's house", y.years(1), 1);
        // with the last boy the next one can't
        NextDoorBrides z = lawful("goes 1000;bears 0;", Given.h(2, 0, 0), Given.h(0, 1, 0));
        Due.same("years(2) to one boy", z.years(2), 1);
        Due.same("look(3)", z.look(3), 1);
    }

    private static void toTheSeaAlways() {
        Due.says("to the sea always");
        NextDoorBrides x = lawful("goes 1000;bears 0;", Given.h(0, 0, 0), Given.h(1, 0, 8));
        x.set(4, 0, 1);
        x.set(4, 1, 1);
        Due.tell(x, 2, "house 0 feud 1;house 1 feud 0;");
        Due.same("goes(1, 1)", x.goes(1, 1), 1);
        Due.yes("act(0, 1)", x.act(0, 1));
        x.undo();
        Due.same("years(1)", x.years(1), 0);
        Due.same("look(2)", x.look(2), 1);
        Due.same("look(3)", x.look(3), 0);
    }

    private static void sheCant() {
        Due.says("She can't: GAPS one more.");
        NextDoorBrides x = lawful("goes 1000;", Given.h(9, 0, 50), Given.h(9, 0, 0), Given.h(0, 0, 0));
        x.years(1);
        Due.same("look(3), one of each house", x.look(3), 2);
        Due.same("look(8), no draw", x.look(8), 0);
        Given.houseIs(x, 0, 9, 0, 50, 0, 0, 0);
        Given.bookIs(x, 0, 0, 2, 0, 1);
        Given.bookIs(x, 1, 0, 2, 1, 2);
        x.years(60);
        Due.same("look(3)", x.look(3), 122);
        // one who does not want to go leaves no gap
        NextDoorBrides y = lawful("goes 0;", Given.h(1, 0, 50), Given.h(0, 1, 0));
        y.set(0, 1, 1);
        y.years(1);
        Due.same("look(3)", y.look(3), 0);
        Due.same("look(7)", y.look(7), 0);
    }

    private static void goesAboveZero() {
        Due.says("goes is asked, is it above 0, a DRAW of 1000: below it she goes");
        // the first draw from 0 is 563, that from 1476291629 is 15
        int[][] cases = {{0, 0, 0}, {0, 1, 0}, {0, 562, 0}, {0, 563, 0}, {0, 564, 1}, {0, 1000, 1},
            {1476291629, 15, 0}, {1476291629, 16, 1}, {1476291629, 1, 0}};
        for (int[] c : cases) {
            NextDoorBrides x = lawful("goes " + c[1] + ";bears 0;", Given.h(1, 0, 9), Given.h(0, 1, 0));
            x.state(c[0]);
            Due.same("years(1) from " + c[0] + " with goes " + c[1], x.years(1), c[2]);
            Due.same("of(0, 0)", x.of(0, 0), 1 - c[2]);
            int then = c[1] == 0 ? c[0] : c[0] * 1664525 + 1013904223;
            Due.same("look(8)", x.look(8), then);
            Due.same("look(3)", x.look(3), 0);
        }
        // a law below 0 is held to 0: no draw either
        NextDoorBrides y = lawful("goes 0-5;", Given.h(1, 0, 9));
        y.years(1);
        Due.same("look(8)", y.look(8), 0);
        // without a law, at eight gaps goes is 0
        NextDoorBrides z = Given.street(Given.h(1, 0, 9), Given.h(1, 0, 0));
        Due.tell(z, 0, "goes 0;");
        z.years(8);
        Due.tell(z, 0, "");
        z.set(0, 0, 0);
        z.years(1);
        Due.same("look(3)", z.look(3), 8);
        Due.same("look(8), goes is 0", z.look(8), 0);
    }

    private static void oneGirlAYear() {
        Due.says("below it she goes: GIRLS one less");
        NextDoorBrides x = lawful("goes 1000;", Given.h(9, 0, 0));
        for (int left = 8; left >= 0; left--) {
            x.years(1);
            Due.same("of(0, 0)", x.of(0, 0), left);
            Due.same("look(2)", x.look(2), 9 - left);
        }
        x.years(1);
        Due.same("of(0, 0), none more", x.of(0, 0), 0);
        Due.same("look(2), none more", x.look(2), 9);
    }

    private static void bringsIsAsked() {
        Due.says("GIRLS one less, brings is asked: so much from this DOWRY to TO's");
        NextDoorBrides x = lawful("goes 1000;bears 0;brings 10*girls+jug;", Given.h(3, 0, 100), Given.h(0, 3, 5));
        x.years(1);
        Due.same("of(0, 2), two are left, the jug still here", x.of(0, 2), 79);
        Due.same("of(1, 2)", x.of(1, 2), 26);
        Due.yes("act(0, 0)", x.act(0, 0));
        Due.same("of(0, 2), one is left", x.of(0, 2), 69);
        Due.same("of(1, 2)", x.of(1, 2), 36);
        Due.yes("act(0, 0)", x.act(0, 0));
        Due.same("of(0, 2), none is left", x.of(0, 2), 69);
        // all or nothing
        NextDoorBrides y = lawful("goes 1000;bears 0;brings dowry+1;", Given.h(2, 0, 77), Given.h(0, 2, 0));
        y.years(1);
        Due.same("of(0, 2)", y.of(0, 2), 0);
        Due.same("of(1, 2)", y.of(1, 2), 77);
        y.act(0, 0);
        Due.same("of(1, 2), nothing more", y.of(1, 2), 77);
        Given.bookIs(y, 0, 0, 0, 0, 77);
        Given.bookIs(y, 1, 1, 0, 0, 0);
    }

    private static void dowryAtMost() {
        Due.says("(9999 at most; to the sea: it is gone)");
        int[][] cases = {{9998, 2, 9999}, {9900, 198, 9999}, {9900, 196, 9998}, {9999, 9999, 9999}, {5000, 9999, 9999}, {5000, 9998, 9999}, {4999, 9999, 9998}};
        for (int[] c : cases) {
            NextDoorBrides x = lawful("goes 1000;bears 0;", Given.h(1, 0, c[1]), Given.h(0, 1, c[0]));
            Due.same("goes(1, 3)", x.goes(1, 3), c[2] + c[1] - c[1] / 2);
            x.years(1);
            Due.same("of(1, 2)", x.of(1, 2), c[2]);
            Due.same("of(0, 2), all of it is given", x.of(0, 2), c[1] - c[1] / 2);
            Given.bookIs(x, 0, 0, 0, 0, c[1] / 2);
        }
        NextDoorBrides y = lawful("goes 1000;bears 0;brings dowry;", Given.h(0, 0, 5), Given.h(1, 0, 9999));
        y.years(1);
        Due.same("of(1, 2) to the sea", y.of(1, 2), 0);
        Due.same("of(0, 2)", y.of(0, 2), 5);
        Due.same("goes(1, 3)", y.goes(1, 3), 5);
    }

    private static void coupleAndWedding() {
        Due.says("to a HOUSE: its BOYS one less, COUPLES one more (9 at most), WEDDINGS one more");
        NextDoorBrides x = Given.street(Given.h(3, 0, 0), Given.h(0, 3, 0));
        x.set(3, 1, 8);
        x.act(0, 0);
        Given.houseIs(x, 1, 0, 2, 0, 9);
        Due.same("look(1)", x.look(1), 1);
        x.act(0, 0);
        Given.houseIs(x, 1, 0, 1, 0, 9);
        Due.same("look(1)", x.look(1), 2);
        Due.same("look(2)", x.look(2), 0);
        // in a generation too: nine couples bear one each, not ten
        Due.tell(x, 0, "goes 1000;bears 1;");
        Due.same("years(1)", x.years(1), 1);
        Due.same("children", x.of(1, 0) + x.of(1, 1), 9);
    }

    private static void linenIfThereIsSome() {
        Due.says("TO's LINEN is that of this one (this one: NONE), if there is some");
        NextDoorBrides x = Given.street(Given.h(2, 0, 0), Given.h(2, 2, 0), Given.h(0, 2, 0));
        x.act(0, 0);
        Due.same("of(0, 5)", x.of(0, 5), -1);
        Due.same("of(1, 5)", x.of(1, 5), 0);
        x.act(0, 0);
        Due.same("of(0, 5), none any more", x.of(0, 5), -1);
        Due.same("of(1, 5), it stays", x.of(1, 5), 0);
        x.act(0, 1);
        Due.same("of(1, 5)", x.of(1, 5), -1);
        Due.same("of(2, 5), from where it came first", x.of(2, 5), 0);
        x.act(0, 1);
        Due.same("of(2, 5), it stays", x.of(2, 5), 0);
    }

    private static void jugWithHer() {
        Due.says("the JUG goes with her, if it is there");
        NextDoorBrides x = Given.street(Given.h(2, 0, 0), Given.h(2, 2, 0), Given.h(0, 2, 0));
        x.act(0, 1);
        Due.same("look(4), it is elsewhere", x.look(4), 0);
        x.act(0, 0);
        Due.same("look(4)", x.look(4), 1);
        x.act(0, 0);
        Due.same("look(4), where she goes already", x.look(4), 1);
    }

    private static void seaTakesAll() {
        Due.says("to the sea: GONE one more, LINEN NONE, the JUG stays.");
        NextDoorBrides x = Given.street(Given.h(2, 2, 0));
        x.act(0, 0);
        Due.same("look(2)", x.look(2), 1);
        Due.same("of(0, 5)", x.of(0, 5), -1);
        Due.same("look(4)", x.look(4), 0);
        x.act(0, 0);
        Due.same("look(2)", x.look(2), 2);
        Due.same("of(0, 5)", x.of(0, 5), -1);
        Due.same("look(1), no wedding", x.look(1), 0);
        Given.houseIs(x, 0, 0, 2, 0, 0);
    }

    private static void bearsForEachCouple() {
        Due.says("(c) HOUSE by HOUSE with COUPLES: bears is asked for each COUPLE of it, as often as that a child");
        for (int couples = 0; couples <= 9; couples++) {
            NextDoorBrides x = lawful("bears 1;", Given.h(0, 0, 0));
            x.set(3, 0, couples);
            x.years(1);
            Due.same("children of " + couples, x.of(0, 0) + x.of(0, 1), couples);
        }
        NextDoorBrides y = lawful("bears 3-girls-boys;", Given.h(0, 0, 0));
        y.set(3, 0, 9);
        y.years(1);
        Due.same("the first bears three, the others none", y.of(0, 0) + y.of(0, 1), 3);
        NextDoorBrides z = lawful("bears 0;", Given.h(0, 0, 0));
        z.set(3, 0, 9);
        z.years(1);
        Due.same("look(8), no child, no draw", z.look(8), 0);
        Due.same("of(0, 3)", z.of(0, 3), 0);
        Due.same("look(7)", z.look(7), 0);
        // a couple of this generation bears in it, and the houses come by number
        NextDoorBrides w = lawful("goes 1000;bears 1+number;", Given.h(1, 0, 0), Given.h(0, 1, 0));
        w.set(3, 0, 1);
        w.years(1);
        Given.bookIs(w, 1, 0, 3, 0, 1);
        Given.bookIs(w, 2, 0, 3, 1, 2);
        // from 0 the draws of 2 are 1 1 0 1, the first of them for the girl who went
        Given.houseIs(w, 0, 0, 1, 0, 0);
        Given.houseIs(w, 1, 1, 1, 0, 0);
    }

    private static void childrenAtMost() {
        Due.says("(9 at most of each; beyond it is not counted, but drawn)");
        // from 0 the draws of 2 are 1 1 0 1 1 0 0 1 0 1 1 1
        NextDoorBrides x = lawful("bears 5;goes 0;", Given.h(8, 8, 0));
        x.set(3, 0, 1);
        x.years(1);
        Given.houseIs(x, 0, 9, 9, 0, 0);
        Due.same("look(8), five draws", x.look(8), 1649599747);
        Given.bookIs(x, 0, 0, 3, 0, 2);
        x.set(3, 0, 1);
        x.years(1);
        Given.houseIs(x, 0, 9, 9, 0, 0);
        Due.same("look(8), ten draws", x.look(8), -1796165862);
        Due.same("look(7), none was counted", x.look(7), 1);
        NextDoorBrides y = lawful("bears 5;goes 0;", Given.h(0, 9, 0));
        y.set(3, 0, 1);
        y.years(1);
        Given.houseIs(y, 0, 1, 9, 0, 0);
        Given.bookIs(y, 0, 0, 3, 0, 1);
    }

    private static void couplesOnlyThen() {
        Due.says("a COUPLE after the other; only then its COUPLES are 0.");
        NextDoorBrides x = lawful("bears couples;", Given.h(0, 0, 0));
        x.set(3, 0, 3);
        x.years(1);
        Due.same("children, three of each of three", x.of(0, 0) + x.of(0, 1), 9);
        Due.same("of(0, 3)", x.of(0, 3), 0);
        x.years(1);
        Due.same("children, none more", x.of(0, 0) + x.of(0, 1), 9);
    }

    private static void whoBecomesAWidow() {
        Due.says("(d) HOUSE by HOUSE: to which nobody came in (b) of this GENERATION (a WEDDING by hand is none), which has a boy, no girl and no WIDOW: WIDOW 1.");
        for (int girls = 0; girls <= 1; girls++) {
            for (int boys = 0; boys <= 1; boys++) {
                for (int widow = 0; widow <= 1; widow++) {
                    NextDoorBrides x = lawful("goes 0;", Given.h(girls, boys, 0));
                    x.set(4, 0, widow);
                    x.years(1);
                    boolean becomes = girls == 0 && boys == 1 && widow == 0;
                    String all = girls + " girls, " + boys + " boys, " + widow + " widow";
                    Due.same("of(0, 4) with " + all, x.of(0, 4), becomes || widow == 1 ? 1 : 0);
                    Due.same("look(7) with " + all, x.look(7), becomes ? 1 : 0);
                }
            }
        }
        // she came to house 1: not this time, but the next
        NextDoorBrides y = lawful("goes 1000;bears 0;", Given.h(1, 0, 0), Given.h(0, 2, 0));
        y.years(1);
        Due.same("look(5)", y.look(5), 0);
        y.years(1);
        Due.same("look(5)", y.look(5), 2);
        Given.bookIs(y, 1, 1, 4, 1, 0);
        // so for house 0, to which they come from the other side
        NextDoorBrides v = lawful("goes 1000;bears 0;", Given.h(0, 2, 0), Given.h(1, 0, 0));
        Due.tell(v, 3, "house 0 side 1;house 1 side 1;");
        v.years(1);
        Due.same("look(5)", v.look(5), 0);
        v.years(1);
        Due.same("look(5)", v.look(5), 1);
        // the last girl to the sea leaves the boy behind; a girl that is born keeps the place
        NextDoorBrides z = lawful("goes 1000;bears 1;", Given.h(1, 1, 0), Given.h(0, 1, 0));
        Due.tell(z, 3, "house 1 side 1;");
        z.set(3, 1, 1);
        // one draw for her, and the next two of 2 from here are 0 and 1
        z.state(1013904223);
        z.years(1);
        Due.same("of(1, 0)", z.of(1, 0), 1);
        Due.same("look(5)", z.look(5), 1);
        // one at whose door a girl was, but did not go in
        NextDoorBrides w = lawful("goes 0;", Given.h(1, 0, 0), Given.h(0, 1, 0));
        w.years(1);
        Due.same("look(5)", w.look(5), 2);
    }

    private static void byHandIsNoComing() {
        Due.says("(a WEDDING by hand is none)");
        NextDoorBrides x = lawful("bears 0;", Given.h(1, 0, 0), Given.h(0, 2, 0));
        x.act(0, 0);
        x.years(1);
        Due.same("look(5)", x.look(5), 2);
    }

    private static void generationIsOneMore() {
        Due.says("GENERATION is one more.");
        NextDoorBrides x = lawful("goes 1000;bears 0;", Given.h(3, 0, 0));
        x.years(1);
        Due.same("look(6)", x.look(6), 1);
        x.years(2);
        Due.same("look(6)", x.look(6), 3);
        for (int i = 0; i < 3; i++) {
            Due.same("book(" + i + ", 0)", x.book(i, 0), i);
        }
    }

    private static void wedByHand() {
        Due.says("to WED the girl of a HOUSE as in (b), if she can (also to the sea), goes not asked");
        NextDoorBrides x = lawful("goes 0;", Given.h(2, 0, 10), Given.h(1, 1, 10));
        Due.yes("act(0, 0)", x.act(0, 0));
        Due.same("look(8), no draw", x.look(8), 0);
        Due.same("look(1)", x.look(1), 1);
        Due.no("act(0, 0), no boy", x.act(0, 0));
        Due.same("look(3), no gap", x.look(3), 0);
        Due.same("look(7)", x.look(7), 1);
        Due.yes("act(0, 1), to the sea", x.act(0, 1));
        Due.no("act(0, 1), no girl", x.act(0, 1));
        Due.same("look(2)", x.look(2), 1);
        Due.same("look(6), it takes no generation", x.look(6), 0);
    }

    private static void noLinesByHand() {
        Due.says("to add a child, to comfort a WIDOW, to put the JUG (no lines)");
        NextDoorBrides x = Given.houses(2, 0, 0, 0);
        x.set(4, 1, 1);
        Due.yes("act(1, 0)", x.act(1, 0));
        Due.yes("act(2, 0)", x.act(2, 0));
        Due.yes("act(3, 1)", x.act(3, 1));
        Due.yes("act(4, 1)", x.act(4, 1));
        Due.same("look(7)", x.look(7), 0);
        Due.same("look(8)", x.look(8), 0);
        Given.houseIs(x, 0, 1, 1, 0, 0, 0);
        Due.same("of(1, 4)", x.of(1, 4), 0);
        Due.same("look(4)", x.look(4), 1);
    }

    private static void bookIsFull() {
        Due.says("THE BOOK (150 lines; no more then)");
        NextDoorBrides x = Given.houses(4, 9, 0, 0);
        Due.tell(x, 0, "goes 0;");
        x.years(49);
        Due.same("look(7)", x.look(7), 147);
        x.set(1, 1, 3);
        x.set(0, 1, 0);
        x.set(0, 2, 0);
        x.act(0, 0);
        x.act(0, 0);
        Due.same("look(7)", x.look(7), 149);
        Due.yes("act(0, 3)", x.act(0, 3));
        Due.same("look(7)", x.look(7), 150);
        Given.bookIs(x, 148, 49, 0, 0, 0);
        Given.bookIs(x, 149, 49, 1, 3, 0);
        Due.yes("act(0, 0), no line", x.act(0, 0));
        Due.same("look(7)", x.look(7), 150);
        Due.same("look(1), but a wedding", x.look(1), 3);
        Given.bookIs(x, 149, 49, 1, 3, 0);
        Due.same("book(150, 0)", x.book(150, 0), -1);
        // the line that found no place, then the one that had the last one
        Due.yes("undo()", x.undo());
        Due.same("look(7)", x.look(7), 150);
        Due.yes("undo()", x.undo());
        Due.same("look(7)", x.look(7), 149);
        Due.same("book(149, 0)", x.book(149, 0), -1);
        Due.yes("act(0, 0)", x.act(0, 0));
        Given.bookIs(x, 149, 49, 0, 0, 0);
        // in the middle of a generation
        NextDoorBrides y = Given.houses(5, 9, 0, 0);
        Due.tell(y, 0, "goes 0;");
        y.years(37);
        Due.same("look(7)", y.look(7), 148);
        y.years(1);
        Due.same("look(7)", y.look(7), 150);
        Given.bookIs(y, 149, 37, 2, 1, 2);
        Due.same("look(3), all of them", y.look(3), 152);
        y.years(60);
        Given.bookIs(y, 149, 37, 2, 1, 2);
        Given.bookIs(y, 0, 0, 2, 0, 1);
    }

    private static void linesOfTheBook() {
        Due.says("how much (0, 1: brings; 2: TO; 3: how many were counted, if above 0; 4: 0)");
        NextDoorBrides x = lawful("goes 1000;bears 2;", Given.h(1, 0, 9), Given.h(1, 1, 8), Given.h(0, 0, 0), Given.h(1, 1, 7));
        x.years(1);
        Due.same("look(7)", x.look(7), 5);
        Given.bookIs(x, 0, 0, 0, 0, 4);
        Given.bookIs(x, 1, 0, 2, 1, 2);
        Given.bookIs(x, 2, 0, 1, 3, 3);
        Given.bookIs(x, 3, 0, 3, 1, 2);
        Given.bookIs(x, 4, 0, 4, 3, 0);
    }

    private static void actThatCantBe() {
        Due.says("false if it can't be (nine already, no WIDOW, the JUG is there), or another what.");
        NextDoorBrides x = Given.street(Given.h(9, 9, 5), Given.h(0, 0, 5));
        Due.tell(x, 1, "in 5 girl 0;");
        x.act(1, 1);
        String before = Seen.all(x);
        Due.no("act(1, 0), nine already", x.act(1, 0));
        Due.no("act(2, 0), nine already", x.act(2, 0));
        Due.no("act(3, 0), no widow", x.act(3, 0));
        Due.no("act(4, 0), it is there", x.act(4, 0));
        Due.no("act(0, 0), she can't", x.act(0, 0));
        for (int what = 0; what <= 4; what++) {
            for (int who : new int[] {-1, 2, 15, 16, LOW, FAR}) {
                Due.no("act(" + what + ", " + who + ")", x.act(what, who));
            }
        }
        for (int what : new int[] {-1, 5, 6, LOW, FAR}) {
            Due.no("act(" + what + ", 1)", x.act(what, 1));
        }
        Due.same("all", Seen.all(x), before);
        NextDoorBrides y = Given.street(Given.h(8, 8, 5));
        Due.yes("act(1, 0) at eight", y.act(1, 0));
        Due.yes("act(2, 0) at eight", y.act(2, 0));
        Given.houseIs(y, 0, 9, 9);
        Due.no("act(1, 0) at nine", y.act(1, 0));
        Due.no("act(2, 0) at nine", y.act(2, 0));
        y.set(4, 0, 1);
        Due.yes("act(3, 0)", y.act(3, 0));
        Due.no("act(3, 0) again", y.act(3, 0));
    }

    private static void yearsWithinBounds() {
        Due.says("GENERATIONS go by (1 .. 60)");
        NextDoorBrides x = Given.street(Given.h(1, 1, 5), Given.h(2, 0, 5));
        x.act(1, 0);
        String before = Seen.all(x);
        for (int n : new int[] {0, -1, 61, 62, LOW, FAR}) {
            Due.same("years(" + n + ")", x.years(n), -1);
        }
        Due.same("all", Seen.all(x), before);
        x.years(1);
        Due.same("look(6)", x.look(6), 1);
        x.years(60);
        Due.same("look(6)", x.look(6), 61);
    }

    private static void yearsUpToTheLast() {
        Due.says("NONE, and nothing is done, if one can't be, or GENERATION would be above 9999.");
        NextDoorBrides x = Given.street(Given.h(0, 0, 5));
        Given.pass(x, 9940);
        Due.same("look(6)", x.look(6), 9940);
        x.act(1, 0);
        String before = Seen.street(x);
        Due.same("years(60)", x.years(60), -1);
        Due.same("all", Seen.street(x), before);
        Due.same("look(13)", x.look(13), 6);
        Due.same("years(59)", x.years(59), 0);
        Due.same("look(6)", x.look(6), 9999);
        before = Seen.street(x);
        Due.same("years(1)", x.years(1), -1);
        Due.same("years(60)", x.years(60), -1);
        Due.same("all", Seen.street(x), before);
        Due.yes("undo()", x.undo());
        Due.same("years(2)", x.years(2), -1);
        Due.same("years(1)", x.years(1), 0);
        Due.same("look(6)", x.look(6), 9999);
    }

    private static void howManyWeddings() {
        Due.says("how many weddings.");
        NextDoorBrides x = lawful("goes 1000;bears 0;", Given.h(4, 0, 0), Given.h(1, 9, 0));
        x.act(0, 0);
        Due.same("years(1), none by hand, none of the sea", x.years(1), 1);
        Due.same("look(2)", x.look(2), 1);
        Due.same("years(60)", x.years(60), 2);
        Due.same("years(60)", x.years(60), 0);
        Due.same("look(1)", x.look(1), 4);
    }

    private static void bookOfNoneSuch() {
        Due.says("NONE if there is none such, or another what.");
        NextDoorBrides x = lawful("goes 1000;", Given.h(2, 0, 9));
        for (int what = 0; what <= 3; what++) {
            Due.same("book(0, " + what + ")", x.book(0, what), -1);
        }
        x.years(1);
        Given.bookIs(x, 0, 0, 1, 0, 4);
        for (int what = 0; what <= 3; what++) {
            for (int i : new int[] {-1, 1, 150, LOW, FAR}) {
                Due.same("book(" + i + ", " + what + ")", x.book(i, what), -1);
            }
        }
        for (int what : new int[] {-1, 4, 5, LOW, FAR}) {
            Due.same("book(0, " + what + ")", x.book(0, what), -1);
        }
    }
}

/** Promises 1 to 6, 11 to 14 and 36: houses, deeds by hand, generations, the book, and both in thought. */
public final class StreetTest {
    private static final int FAR = Given.FAR;
    private static final int LOW = Given.LOW;

    private StreetTest() {
    }

    public static void main(String[] args) {
        aNewObject();
        state();
        house();
        set();
        actWedsToAHouse();
        actWedsToTheSea();
        actOtherDeeds();
        yearsByDraws();
        yearsStopAtAGap();
        yearsBearChildren();
        yearsMakeWidows();
        yearsByPlans();
        yearsWrong();
        ofAHouse();
        lawAnswersAreHeld();
        sides();
        book();
        goesInThought();
        childrenInThought();
        jugInThought();
        look();
        Due.finish();
    }

    private static void aNewObject() {
        NextDoorBrides x = new NextDoorBrides();
        int[] due = {0, 0, 0, 0, -1, 0, 0, 0, 0, 0, 0, 0, 0, 0};
        for (int what = 0; what < due.length; what++) {
            Due.same("look(" + what + ") of a new one", x.look(what), due[what]);
        }
        Due.same("fault(0) of a new one", x.fault(0), 0);
        Due.same("fault(1) of a new one", x.fault(1), -1);
        Due.no("undo() of a new one", x.undo());
        Due.no("image(false) of a new one", x.image(false));
        Due.same("NONE", NextDoorBrides.NONE, -1);
    }

    private static void state() {
        NextDoorBrides x = Given.street(Given.h(0, 0, 0));
        Due.same("state(5)", x.state(5), 0);
        Due.same("state(-7)", x.state(-7), 5);
        Due.same("state(least)", x.state(LOW), -7);
        Due.same("look(8)", x.look(8), LOW);
        x.years(1);
        Due.same("look(8) without a draw", x.look(8), LOW);
        Due.same("look(13)", x.look(13), 1);
        x.state(LOW);
        Due.same("look(13) forgotten", x.look(13), 0);
    }

    private static void house() {
        NextDoorBrides x = new NextDoorBrides();
        int[][] wrong = {{-1, 0, 0}, {10, 0, 0}, {0, -1, 0}, {0, 10, 0}, {0, 0, -1}, {0, 0, 10000}, {FAR, FAR, FAR}, {LOW, LOW, LOW}};
        for (int[] w : wrong) {
            Due.same("house(" + w[0] + ", " + w[1] + ", " + w[2] + ")", x.house(w[0], w[1], w[2]), -1);
        }
        Due.same("look(4)", x.look(4), -1);
        Due.same("house(9, 9, 9999)", x.house(9, 9, 9999), 0);
        Due.same("look(4)", x.look(4), 0);
        Given.houseIs(x, 0, 9, 9, 9999, 0, 0, 0, 0, -1);
        for (int i = 1; i < 16; i++) {
            Due.same("house(0, 0, 0)", x.house(0, 0, 0), i);
            Due.same("of(i, 5)", x.of(i, 5), i);
        }
        Due.same("house(0, 0, 0)", x.house(0, 0, 0), -1);
        Due.same("look(0)", x.look(0), 16);
        Due.same("look(4)", x.look(4), 0);
        NextDoorBrides y = Given.street(Given.h(1, 1, 1));
        y.act(1, 0);
        y.house(-1, 0, 0);
        Due.same("look(13) behind a house that can't be", y.look(13), 1);
        y.house(0, 0, 0);
        Due.same("look(13) behind a house", y.look(13), 0);
    }

    private static void set() {
        NextDoorBrides x = Given.street(Given.h(1, 2, 3), Given.h(4, 5, 6));
        int[] most = {9, 9, 9999, 9, 1};
        for (int what = 0; what < 5; what++) {
            Due.yes("set(" + what + ", 1, most)", x.set(what, 1, most[what]));
            Due.same("of(1, " + what + ")", x.of(1, what), most[what]);
            Due.no("set(" + what + ", 1, most + 1)", x.set(what, 1, most[what] + 1));
            Due.no("set(" + what + ", 1, -1)", x.set(what, 1, -1));
            Due.no("set(" + what + ", 1, far)", x.set(what, 1, FAR));
            Due.same("of(1, " + what + ")", x.of(1, what), most[what]);
            Due.yes("set(" + what + ", 1, 0)", x.set(what, 1, 0));
            Due.same("of(1, " + what + ")", x.of(1, what), 0);
            Due.no("set(" + what + ", 2, 0)", x.set(what, 2, 0));
            Due.no("set(" + what + ", -1, 0)", x.set(what, -1, 0));
        }
        Given.houseIs(x, 0, 1, 2, 3, 0, 0, 0);
        Due.no("set(5, 0, 0)", x.set(5, 0, 0));
        Due.no("set(-1, 0, 0)", x.set(-1, 0, 0));
        Due.no("set(far, 0, 0)", x.set(FAR, 0, 0));
        Due.no("set(0, far, 0)", x.set(0, FAR, 0));
        x.act(1, 0);
        x.set(5, 0, 0);
        Due.same("look(13) behind a wrong set", x.look(13), 1);
        x.set(0, 0, 2);
        Due.same("look(13) behind a set", x.look(13), 0);
    }

    private static void actWedsToAHouse() {
        NextDoorBrides x = Given.street(Given.h(2, 0, 101), Given.h(1, 2, 9990));
        Due.yes("act(0, 0)", x.act(0, 0));
        Given.houseIs(x, 0, 1, 0, 51, 0, 0, -1);
        Given.houseIs(x, 1, 1, 1, 9999, 1, 0, 0);
        Due.same("jug with her", x.look(4), 1);
        Due.same("weddings", x.look(1), 1);
        Due.same("no draw", x.look(8), 0);
        Given.bookIs(x, 0, 0, 0, 0, 50);
        Due.yes("act(0, 0) again", x.act(0, 0));
        Given.houseIs(x, 0, 0, 0, 26, 0, 0, -1);
        // no linen is left to bring: that of house 1 stays
        Given.houseIs(x, 1, 1, 0, 9999, 2, 0, 0);
        Due.no("act(0, 0) without a girl", x.act(0, 0));
        x.set(0, 0, 1);
        Due.no("act(0, 0) without a boy", x.act(0, 0));
        x.set(1, 1, 1);
        x.set(4, 1, 1);
        Due.no("act(0, 0) to a widow", x.act(0, 0));
        Due.same("no gap by hand", x.look(3), 0);
        Due.same("look(7)", x.look(7), 2);
        x.set(4, 1, 0);
        x.set(3, 1, 9);
        Due.yes("act(0, 0) to nine couples", x.act(0, 0));
        Due.same("of(1, 3)", x.of(1, 3), 9);
        NextDoorBrides y = Given.street(Given.h(1, 1, 0), Given.h(1, 1, 0));
        Due.tell(y, 2, "house 1 feud 0;");
        Due.no("act(0, 0) with a feud from there", y.act(0, 0));
        Due.tell(y, 2, "house 0 feud 1;");
        Due.no("act(0, 0) with a feud from here", y.act(0, 0));
        Due.tell(y, 2, "");
        Due.tell(y, 0, "goes 0;brings girls * 10;");
        y.set(2, 0, 50);
        y.set(0, 0, 3);
        Due.yes("act(0, 0), goes not asked", y.act(0, 0));
        Due.same("brings is asked behind her leaving", y.of(1, 2), 20);
    }

    private static void actWedsToTheSea() {
        NextDoorBrides x = Given.street(Given.h(1, 1, 9));
        Due.yes("act(0, 0)", x.act(0, 0));
        Given.houseIs(x, 0, 0, 1, 5, 0, 0, -1);
        Due.same("gone", x.look(2), 1);
        Due.same("weddings", x.look(1), 0);
        Due.same("jug stays", x.look(4), 0);
        Given.bookIs(x, 0, 0, 1, 0, 4);
        Due.no("act(0, 0)", x.act(0, 0));
    }

    private static void actOtherDeeds() {
        NextDoorBrides x = Given.street(Given.h(8, 8, 0), Given.h(0, 0, 0));
        Due.yes("act(1, 0)", x.act(1, 0));
        Due.no("act(1, 0) at nine", x.act(1, 0));
        Due.yes("act(2, 0)", x.act(2, 0));
        Due.no("act(2, 0) at nine", x.act(2, 0));
        Given.houseIs(x, 0, 9, 9);
        Due.no("act(3, 0) without", x.act(3, 0));
        x.set(4, 0, 1);
        Due.yes("act(3, 0)", x.act(3, 0));
        Due.same("of(0, 4)", x.of(0, 4), 0);
        Due.no("act(4, 0) there", x.act(4, 0));
        Due.yes("act(4, 1)", x.act(4, 1));
        Due.same("look(4)", x.look(4), 1);
        Due.same("no lines", x.look(7), 0);
        for (int what = 0; what < 5; what++) {
            Due.no("act(" + what + ", 2)", x.act(what, 2));
            Due.no("act(" + what + ", -1)", x.act(what, -1));
            Due.no("act(" + what + ", far)", x.act(what, FAR));
        }
        Due.no("act(5, 0)", x.act(5, 0));
        Due.no("act(-1, 0)", x.act(-1, 0));
        Due.same("look(13)", x.look(13), 2);
    }

    private static int after(int state, int draws) {
        int s = state;
        for (int i = 0; i < draws; i++) {
            s = s * 1664525 + 1013904223;
        }
        return s;
    }

    private static int drawn(int state, int m) {
        return (int) (((state & 0xffffffffL) >> 8) % m);
    }

    private static void yearsByDraws() {
        int chance = drawn(after(0, 1), 1000);
        Due.same("the first draw", chance, 563);
        for (int goes : new int[] {563, 564}) {
            NextDoorBrides x = Given.street(Given.h(1, 0, 100), Given.h(0, 1, 0));
            Due.tell(x, 0, "goes " + goes + "; bears 0;");
            Due.same("years(1) with " + goes, x.years(1), goes == 564 ? 1 : 0);
            Due.same("one draw", x.look(8), after(0, 1));
            Due.same("book lines", x.look(7), 1);
            Given.bookIs(x, 0, 0, goes == 564 ? 0 : 4, goes == 564 ? 0 : 1, goes == 564 ? 50 : 0);
            Due.same("generation", x.look(6), 1);
        }
        NextDoorBrides y = Given.street(Given.h(1, 0, 100), Given.h(0, 1, 0));
        Due.tell(y, 0, "goes 0;");
        y.years(1);
        Due.same("no draw for 0", y.look(8), 0);
        NextDoorBrides z = Given.street(Given.h(1, 0, 100), Given.h(0, 1, 0));
        Due.tell(z, 0, "goes 1000; bears 0;");
        Due.same("years(1) with 1000", z.years(1), 1);
        Due.same("a draw for 1000", z.look(8), after(0, 1));
        NextDoorBrides s = Given.street(Given.h(3, 0, 100));
        s.state(after(0, 0));
        Due.tell(s, 0, "goes 1000;");
        Due.same("years(2) to the sea", s.years(2), 0);
        Due.same("one a generation", s.look(2), 2);
        Due.same("of(0, 2)", s.of(0, 2), 25);
    }

    private static void yearsStopAtAGap() {
        NextDoorBrides x = Given.street(Given.h(2, 0, 0), Given.h(1, 0, 0), Given.h(0, 0, 0));
        x.years(1);
        Due.same("gaps", x.look(3), 2);
        Due.same("no draw", x.look(8), 0);
        Given.bookIs(x, 0, 0, 2, 0, 1);
        Given.bookIs(x, 1, 0, 2, 1, 2);
        Due.same("goes with two gaps", x.of(0, 8), 600);
        x.years(4);
        Due.same("gaps", x.look(3), 10);
        Due.same("goes held", x.of(0, 8), 0);
        // the gap of house 0 is told to house 1 in the same generation
        NextDoorBrides y = Given.street(Given.h(1, 0, 0), Given.h(1, 0, 0), Given.h(0, 1, 0));
        Due.tell(y, 0, "goes 1000 when gaps = 1; goes 0;");
        Due.same("years(1)", y.years(1), 1);
        NextDoorBrides z = Given.street(Given.h(1, 1, 0), Given.h(0, 1, 0));
        Due.tell(z, 2, "house 1 feud 0;");
        z.years(1);
        Due.same("a feud is a gap", z.look(3), 1);
        z.set(4, 1, 1);
        Due.tell(z, 2, "");
        z.years(1);
        Due.same("a widow is a gap", z.look(3), 2);
    }

    private static void yearsBearChildren() {
        NextDoorBrides x = Given.street(Given.h(0, 0, 0));
        x.set(3, 0, 3);
        Due.tell(x, 0, "bears couples;");
        x.years(1);
        int girls = 0;
        for (int i = 1; i <= 9; i++) {
            girls += drawn(after(0, i), 2) == 0 ? 1 : 0;
        }
        Given.houseIs(x, 0, girls, 9 - girls, 0, 0);
        Due.same("nine draws", x.look(8), after(0, 9));
        Given.bookIs(x, 0, 0, 3, 0, 9);
        // beyond nine they are drawn, not counted
        NextDoorBrides y = Given.street(Given.h(9, 9, 0));
        Due.tell(y, 0, "goes 0; bears 5;");
        y.set(3, 0, 2);
        y.years(1);
        Due.same("ten draws", y.look(8), after(0, 10));
        Given.houseIs(y, 0, 9, 9, 0, 0);
        Due.same("no line for none", y.look(7), 0);
        // each couple is asked anew
        NextDoorBrides z = Given.street(Given.h(0, 0, 0));
        z.set(3, 0, 4);
        Due.tell(z, 0, "bears 1 when girls + boys < 2; bears 0;");
        z.years(1);
        Due.same("two children", z.of(0, 0) + z.of(0, 1), 2);
        Due.same("two draws", z.look(8), after(0, 2));
        NextDoorBrides w = Given.street(Given.h(1, 0, 8), Given.h(0, 1, 0));
        Due.tell(w, 0, "goes 1000;");
        w.years(1);
        Due.same("bears 2 without a law", w.of(1, 0) + w.of(1, 1), 2);
    }

    private static void yearsMakeWidows() {
        NextDoorBrides x = Given.street(Given.h(0, 1, 0), Given.h(0, 0, 0), Given.h(1, 1, 0), Given.h(0, 2, 0));
        Due.tell(x, 0, "goes 1000; bears 0;");
        x.years(1);
        // 0 has a boy alone; 1 nobody; 2 sent its girl away, and nobody came; to 3 she came
        Due.same("look(5)", x.look(5), 1 | 4);
        Given.bookIs(x, 0, 0, 0, 2, 0);
        Given.bookIs(x, 1, 0, 4, 0, 0);
        Given.bookIs(x, 2, 0, 4, 2, 0);
        Due.same("look(7)", x.look(7), 3);
        // a wedding by hand is none
        NextDoorBrides y = Given.street(Given.h(1, 0, 0), Given.h(0, 2, 0));
        Due.tell(y, 0, "bears 0;");
        y.act(0, 0);
        y.years(1);
        Due.same("look(5) behind a wedding by hand", y.look(5), 2);
        y.years(1);
        Due.same("a widow is told once", y.look(7), 2);
    }

    private static void yearsByPlans() {
        NextDoorBrides x = Given.street(Given.h(8, 8, 9990), Given.h(0, 0, 0));
        Due.tell(x, 0, "goes 0;");
        Due.lines(x, 1, "in 1 girl 0; in 1 girl 0; in 1 boy 0; in 1 boy 0; in 1 give 0 999; in 1 jug 1; in 1 widow 1;", 7);
        x.years(1);
        Given.houseIs(x, 0, 8, 8, 9990);
        x.years(1);
        Given.houseIs(x, 0, 9, 9, 9999);
        Due.same("jug", x.look(4), 1);
        Due.same("widow", x.look(5), 2);
        Due.lines(x, 1, "in 2 comfort 1; in 2 widow 0; in 2 comfort 0; in 2 widow 0;", 4);
        x.years(1);
        Due.same("line by line", x.look(5), 1);
        // a girl by plan can go at once
        NextDoorBrides y = Given.street(Given.h(0, 0, 0), Given.h(0, 1, 0));
        Due.tell(y, 0, "goes 1000;");
        Due.tell(y, 1, "in 0 girl 0;");
        Due.same("years(1)", y.years(1), 1);
    }

    private static void yearsWrong() {
        NextDoorBrides x = Given.street(Given.h(0, 0, 0));
        for (int n : new int[] {0, -1, 61, FAR, LOW}) {
            Due.same("years(" + n + ")", x.years(n), -1);
        }
        Due.same("look(6)", x.look(6), 0);
        for (int i = 0; i < 166; i++) {
            x.years(60);
        }
        Due.same("look(6)", x.look(6), 9960);
        Due.same("years(40)", x.years(40), -1);
        Due.same("look(6)", x.look(6), 9960);
        Due.same("years(39)", x.years(39), 0);
        Due.same("look(6)", x.look(6), 9999);
        Due.same("years(1)", x.years(1), -1);
        Due.same("goes(60, 0) beyond the last generation", x.goes(60, 0), 0);
        Due.yes("undo()", x.undo());
        Due.same("look(6)", x.look(6), 9998);
    }

    private static void ofAHouse() {
        NextDoorBrides x = Given.street(Given.h(1, 2, 3), Given.h(4, 5, 7));
        Given.houseIs(x, 0, 1, 2, 3, 0, 0, 0, 0, 1, 800, 2, 1, 0);
        Given.houseIs(x, 1, 4, 5, 7, 0, 0, 1, 0, -1, 800, 2, 3, 0);
        Due.tell(x, 2, "house 0 feud 1; house 0 feud 1;");
        Due.same("of(0, 11)", x.of(0, 11), 2);
        Due.same("of(1, 11), one way", x.of(1, 11), 0);
        for (int what : new int[] {-1, 12, FAR, LOW}) {
            Due.same("of(0, " + what + ")", x.of(0, what), -2);
        }
        for (int who : new int[] {-1, 2, 16, FAR, LOW}) {
            for (int what = -1; what < 13; what++) {
                Due.same("of(" + who + ", " + what + ")", x.of(who, what), -2);
            }
        }
    }

    private static void lawAnswersAreHeld() {
        NextDoorBrides x = Given.street(Given.h(1, 2, 30), Given.h(4, 5, 7));
        Due.tell(x, 0, "goes 1001; bears 6; brings dowry + 1;");
        Given.houseIs(x, 0, 1, 2, 30, 0, 0, 0, 0, 1, 1000, 5, 30);
        Due.tell(x, 0, "goes 0 - 1; bears 0 - 1; brings 0 - 1;");
        Given.houseIs(x, 0, 1, 2, 30, 0, 0, 0, 0, 1, 0, 0, 0);
        Due.tell(x, 0, "goes 7 - 20 / 3 * 2 + 1000 - 500;");
        Due.same("signs by their rank, from the left", x.of(0, 8), 495);
        Due.tell(x, 0, "goes 500 + 0 - 7 / 2;");
        Due.same("parts", x.of(0, 8), 497);
        Due.tell(x, 0, "goes 503 - 1 - 2;");
        Due.same("from the left", x.of(0, 8), 500);
        Due.tell(x, 0, "goes 1 when 9999 * 9999 * 9999 < 0; goes 2;");
        Due.same("ints wrap", x.of(0, 8), 9999 * 9999 * 9999 < 0 ? 1 : 2);
        Due.tell(x, 0, "goes 500 + 9999 * 9999 * 43 / 9999;");
        Due.same("towards 0", x.of(0, 8), Math.max(0, Math.min(1000, 500 + 9999 * 9999 * 43 / 9999)));
        Due.tell(x, 0, "goes 1 when girls = 1; goes 2 when boys = 5; goes 3;");
        Due.same("the first that is so", x.of(0, 8), 1);
        Due.same("the next that is so", x.of(1, 8), 2);
        Due.tell(x, 0, "goes 1 when girls > 1 or boys = 2 and dowry < 7; goes 2 when not girls = 1 and girls = 1; goes 3;");
        Due.same("and binds", x.of(0, 8), 3);
        Due.same("or", x.of(1, 8), 1);
        Due.tell(x, 0, "goes 1 when not (girls = 4 or girls = 1); goes 2 when (number = 1 or girls = 1) and number = 1;");
        Due.same("else as without a law", x.of(0, 8), 800);
        Due.same("brackets", x.of(1, 8), 2);
        String[] names = {"girls", "boys", "couples", "dowry", "widow", "number", "side", "jug", "gaps", "generation"};
        x.set(3, 1, 3);
        x.set(4, 1, 1);
        x.act(4, 1);
        Due.tell(x, 3, "house 1 side 1;");
        int[] due = {4, 5, 3, 7, 1, 1, 1, 1, 0, 0};
        for (int i = 0; i < names.length; i++) {
            Due.tell(x, 0, "goes " + names[i] + ";");
            Due.same(names[i], x.of(1, 8), due[i]);
        }
        Due.tell(x, 0, "goes jug;");
        Due.same("jug elsewhere", x.of(0, 8), 0);
        x.set(0, 0, 2);
        x.set(4, 1, 1);
        Due.tell(x, 3, "");
        x.years(1);
        Due.tell(x, 0, "goes gaps * 10 + generation;");
        Due.same("gaps, generation", x.of(0, 8), 11);
    }

    private static void sides() {
        NextDoorBrides x = Given.street(Given.h(1, 1, 10), Given.h(1, 1, 20), Given.h(1, 1, 30), Given.h(1, 1, 40), Given.h(1, 1, 50));
        Due.lines(x, 3, "house 1 side 0; house 1 side 1; house 3 side 1; house 0 side 1; house 0 side 0;", 5);
        int[] side = {0, 1, 0, 1, 0};
        int[] to = {2, -1, 4, 1, -1};
        for (int i = 0; i < 5; i++) {
            Due.same("of(" + i + ", 6)", x.of(i, 6), side[i]);
            Due.same("of(" + i + ", 7)", x.of(i, 7), to[i]);
        }
        Due.yes("act(0, 3)", x.act(0, 3));
        Due.same("dowry to the left", x.of(1, 2), 40);
        Due.same("linen to the left", x.of(1, 5), 3);
        Due.yes("act(0, 1)", x.act(0, 1));
        Due.same("the sea on the other end", x.look(2), 1);
        Due.lines(x, 3, "house 4 side 1;", 1);
        Due.same("all others 0", x.of(3, 6), 0);
        Due.same("the other side alone", x.of(4, 7), -1);
        Due.same("past it", x.of(3, 7), -1);
    }

    private static void book() {
        NextDoorBrides x = new NextDoorBrides();
        for (int i = 0; i < 16; i++) {
            x.house(9, 0, 0);
        }
        Due.tell(x, 0, "goes 0;");
        x.years(9);
        Due.same("look(7)", x.look(7), 135);
        x.years(2);
        Due.same("look(7), no more then", x.look(7), 150);
        Given.bookIs(x, 149, 9, 2, 14, 15);
        Due.same("book(150, 0)", x.book(150, 0), -1);
        Due.same("look(3)", x.look(3), 165);
        for (int i : new int[] {-1, 151, FAR, LOW}) {
            Due.same("book(" + i + ", 0)", x.book(i, 0), -1);
        }
        for (int what : new int[] {-1, 4, FAR, LOW}) {
            Due.same("book(0, " + what + ")", x.book(0, what), -1);
        }
        Due.yes("undo()", x.undo());
        Due.same("look(7) when full before", x.look(7), 150);
        Due.yes("undo()", x.undo());
        Due.same("look(7) undone", x.look(7), 135);
        Due.same("book(135, 0) undone", x.book(135, 0), -1);
    }

    private static void goesInThought() {
        NextDoorBrides x = Given.street(Given.h(1, 0, 100), Given.h(1, 1, 50), Given.h(0, 1, 0));
        Due.tell(x, 0, "bears 0; goes 500; brings 10;");
        x.act(0, 1);
        Due.same("goes(1, 0), all of them", x.goes(1, 0), 2);
        Due.same("goes(1, 3)", x.goes(1, 3), 150);
        Due.same("goes(1, 1)", x.goes(1, 1), 0);
        Due.same("goes(1, 2)", x.goes(1, 2), 0);
        Due.same("nothing stays", x.look(1), 1);
        Due.same("no draw", x.look(8), 0);
        Due.same("no line", x.look(7), 1);
        Due.same("no undo", x.look(13), 1);
        Due.tell(x, 0, "bears 0; goes 499; brings 10;");
        Due.same("goes(1, 0) below 500", x.goes(60, 0), 1);
        NextDoorBrides y = Given.street(Given.h(3, 0, 80));
        Due.same("goes(2, 1) to the sea", y.goes(2, 1), 2);
        Due.same("goes(2, 3) to the sea", y.goes(2, 3), 20);
        Due.same("goes(60, 1)", y.goes(60, 1), 3);
        NextDoorBrides z = Given.street(Given.h(1, 0, 80), Given.h(0, 0, 0));
        Due.same("goes(60, 2)", z.goes(60, 2), 60);
        Due.tell(z, 1, "in 3 boy 1;");
        Due.same("goes(4, 0) by plan, at three gaps", z.goes(4, 0), 1);
        for (int n : new int[] {0, -1, 61, FAR, LOW}) {
            Due.same("goes(" + n + ", 0)", z.goes(n, 0), -1);
        }
        for (int what : new int[] {-1, 4, FAR, LOW}) {
            Due.same("goes(1, " + what + ")", z.goes(1, what), -1);
        }
    }

    private static void childrenInThought() {
        // three children by turns: girl, boy, girl; the boy of nine already is passed over, not put off
        NextDoorBrides x = Given.street(Given.h(0, 9, 64));
        x.set(3, 0, 1);
        Due.tell(x, 0, "bears 3; goes 1000; brings 1;");
        Due.same("goes(1, 1)", x.goes(1, 1), 0);
        Due.same("goes(3, 1), two girls", x.goes(3, 1), 2);
        Due.same("goes(60, 1)", x.goes(60, 1), 2);
        // through all couples: the second couple's first child is a boy
        NextDoorBrides y = Given.street(Given.h(0, 0, 64));
        y.set(3, 0, 2);
        Due.tell(y, 0, "bears 1; goes 1000;");
        Due.same("goes(60, 1), one girl", y.goes(60, 1), 1);
        NextDoorBrides z = Given.street(Given.h(0, 0, 64));
        z.set(3, 0, 2);
        Due.tell(z, 0, "bears 3; goes 1000;");
        Due.same("goes(60, 1), three girls", z.goes(60, 1), 3);
    }

    private static void jugInThought() {
        NextDoorBrides x = Given.street(Given.h(1, 0, 0), Given.h(0, 1, 0), Given.h(0, 1, 0));
        Due.tell(x, 0, "goes 500;");
        Due.same("jug(0)", x.jug(0), 0);
        Due.same("jug(1)", x.jug(1), 1);
        // a girl is born in house 1 and goes on; house 2 has its widow by then
        Due.same("jug(2)", x.jug(2), -1);
        Due.tell(x, 1, "in 1 comfort 2;");
        Due.same("jug(2) comforted", x.jug(2), 2);
        Due.tell(x, 1, "in 60 jug 2;");
        Due.same("jug(2) too late", x.jug(2), -1);
        Due.tell(x, 1, "in 59 jug 2;");
        Due.same("jug(2) behind 60", x.jug(2), 60);
        Due.same("nothing stays", x.look(4), 0);
        Due.same("nothing stays", x.look(6), 0);
        for (int who : new int[] {-1, 3, FAR, LOW}) {
            Due.same("jug(" + who + ")", x.jug(who), -1);
        }
        Due.same("jug(0) without houses", new NextDoorBrides().jug(0), -1);
    }

    private static void look() {
        NextDoorBrides x = Given.street(Given.h(1, 1, 100), Given.h(0, 2, 0));
        Due.tell(x, 0, "goes 1000; bears 0; brings 1;");
        Due.tell(x, 1, "in 5 girl 0; in 6 girl 0;");
        Due.tell(x, 2, "house 1 feud 0;");
        Due.tell(x, 2, "");
        Due.tell(x, 3, "house 1 side 0;");
        x.years(1);
        x.act(1, 1);
        int[] due = {2, 1, 0, 0, 1, 1, 1, 2, after(0, 1), 3, 2, 0, 1, 2};
        for (int what = 0; what < due.length; what++) {
            Due.same("look(" + what + ")", x.look(what), due[what]);
        }
        for (int what : new int[] {-1, 14, FAR, LOW}) {
            Due.same("look(" + what + ")", x.look(what), -100000);
        }
    }
}

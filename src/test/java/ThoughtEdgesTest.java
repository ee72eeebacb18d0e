/** Boundary cases of "Terms" 4 that the street and its texts have part in, and of the promises 13, 14 and 23. */
public final class ThoughtEdgesTest {
    private static final int FAR = Given.FAR;
    private static final int LOW = Given.LOW;

    private ThoughtEdgesTest() {
    }

    public static void main(String[] args) {
        nothingStays();
        goesAtFiveHundred();
        childrenByTurns();
        childrenAnewEachTime();
        childrenThroughAllCouples();
        childrenNotCounted();
        goesWithinBounds();
        goesThen();
        goesThatCantBe();
        goesBeyondTheLast();
        jugNow();
        jugWithinSixty();
        jugOfNoneSuch();
        above();
        kings();
        oneAlone();
        longest();
        longestOfTwelve();
        feudsOfAnother();
        Due.finish();
    }

    private static NextDoorBrides lawful(String law, int[]... houses) {
        NextDoorBrides x = Given.street(houses);
        Due.tell(x, 0, law);
        return x;
    }

    private static void nothingStays() {
        Due.says("IN THOUGHT (nothing of it stays; no DRAWS");
        NextDoorBrides x = lawful("goes 900;bears 3;", Given.h(3, 2, 100), Given.h(2, 0, 50), Given.h(1, 1, 20));
        Due.tell(x, 1, "in 0 give 0 9;in 1 jug 2;in 2 widow 0;in 3 boy 1;");
        x.act(4, 1);
        String before = Seen.all(x);
        for (int what = 0; what <= 3; what++) {
            x.goes(1, what);
            x.goes(60, what);
        }
        for (int who = 0; who < 3; who++) {
            x.jug(who);
        }
        Due.same("all", Seen.all(x), before);
        // STATE has no part in it
        int weddings = x.goes(60, 0);
        x.state(LOW);
        Due.same("goes(60, 0)", x.goes(60, 0), weddings);
    }

    private static void goesAtFiveHundred() {
        Due.says("one goes, if goes is 500 at least");
        int[][] cases = {{0, 0}, {499, 0}, {500, 1}, {501, 1}, {1000, 1}};
        for (int[] c : cases) {
            NextDoorBrides x = lawful("goes " + c[0] + ";bears 0;", Given.h(1, 0, 9), Given.h(0, 1, 0));
            Due.same("goes(1, 0) with " + c[0], x.goes(1, 0), c[1]);
            NextDoorBrides y = lawful("goes " + c[0] + ";bears 0;", Given.h(1, 0, 9));
            Due.same("goes(1, 1) with " + c[0], y.goes(1, 1), c[1]);
        }
        // without a law: 500 at three gaps, 400 at four
        NextDoorBrides z = Given.street(Given.h(9, 0, 0), Given.h(0, 0, 0), Given.h(0, 0, 0));
        Due.tell(z, 1, "in 3 girl 2;in 4 girl 2;in 4 girl 2;");
        Due.same("goes(3, 1)", z.goes(3, 1), 0);
        Due.same("goes(4, 1), three gaps before and one more ahead of it", z.goes(4, 1), 0);
        Due.tell(z, 1, "in 2 girl 2;in 3 girl 2;");
        Due.same("goes(3, 1), two before and one more ahead of it", z.goes(3, 1), 1);
        Due.same("goes(60, 1)", z.goes(60, 1), 1);
        Due.same("goes(60, 2), gaps are gaps in thought", z.goes(60, 2), 60);
    }

    /** How many girls and boys a house has in thought behind the first generation: they can be seen by who goes. */
    private static void bornAre(NextDoorBrides x, int girls, int boys) {
        // all girls go to the sea in time
        Due.same("girls born in thought", x.goes(60, 1), girls);
        // house 1 stands behind with nine girls of its own, on the same way: boys let them in
        x.house(0, 0, 0);
        Due.tell(x, 3, "house 0 side 1;house 1 side 1;");
        x.set(0, 1, 9);
        Due.same("boys born in thought", x.goes(60, 0), boys);
    }

    private static NextDoorBrides couples(int couples, int bears, int girls, int boys) {
        NextDoorBrides x = lawful("goes 1000;bears " + bears + " when generation=0;bears 0;", Given.h(girls, boys, 0));
        x.set(3, 0, couples);
        return x;
    }

    private static void childrenByTurns() {
        Due.says("children: girl, boy, girl, .. by turns in each HOUSE, a girl first");
        bornAre(couples(1, 0, 0, 0), 0, 0);
        bornAre(couples(1, 1, 0, 0), 1, 0);
        bornAre(couples(1, 5, 0, 0), 3, 2);
        // a house of its own each: both begin with a girl
        NextDoorBrides x = lawful("goes 1000;bears 1;", Given.h(0, 0, 0), Given.h(0, 0, 0));
        Due.tell(x, 3, "house 0 side 1;");
        x.set(3, 0, 1);
        x.set(3, 1, 1);
        Due.same("goes(2, 1)", x.goes(2, 1), 2);
    }

    private static void childrenAnewEachTime() {
        Due.says("anew each GENERATION");
        // two weddings, a generation apart, into house 1, each of which bears one child: a girl both times
        NextDoorBrides x = lawful("goes 1000;bears 1;brings 0;", Given.h(2, 0, 0), Given.h(0, 2, 0));
        Due.same("goes(60, 0)", x.goes(60, 0), 2);
        Due.same("goes(60, 1), two girls", x.goes(60, 1), 2);
    }

    private static void childrenThroughAllCouples() {
        Due.says("through all its COUPLES");
        bornAre(couples(2, 1, 0, 0), 1, 1);
        bornAre(couples(3, 1, 0, 0), 2, 1);
        bornAre(couples(2, 3, 0, 0), 3, 3);
        bornAre(couples(3, 3, 0, 0), 5, 4);
    }

    private static void childrenNotCounted() {
        Due.says("those not counted, too");
        // nine boys already: girl, (boy), girl, (boy), girl
        Due.same("goes(60, 1), three girls", couples(1, 5, 0, 9).goes(60, 1), 3);
        // eight girls, who all go: one goes in (b), so seven and two of three are counted: girl, boy, girl, boy, (girl)
        bornAre(couples(1, 5, 8, 0), 8 + 2, 2);
    }

    private static void goesWithinBounds() {
        Due.says("GOES for n (1 .. 60) GENERATIONS");
        NextDoorBrides x = lawful("goes 1000;bears 0;", Given.h(9, 0, 0), Given.h(0, 0, 0));
        for (int n : new int[] {1, 2, 59, 60}) {
            Due.same("goes(" + n + ", 2)", x.goes(n, 2), n);
        }
    }

    private static void goesThen() {
        Due.says("WEDDINGS, GONE, GAPS, DOWRIES of all then.");
        NextDoorBrides x = lawful("goes 1000;bears 0;brings 10;", Given.h(3, 0, 9990), Given.h(1, 1, 9995), Given.h(1, 0, 5));
        x.act(0, 0);
        x.act(0, 2);
        x.years(1);
        Due.same("look(1)", x.look(1), 1);
        Due.same("look(2)", x.look(2), 1);
        Due.same("look(3)", x.look(3), 2);
        Due.same("goes(1, 0), with those that were", x.goes(1, 0), 1);
        Due.same("goes(1, 1), with those that were", x.goes(1, 1), 1);
        Due.same("goes(1, 2), with those that were", x.goes(1, 2), 4);
        Due.same("goes(1, 3), all houses'", x.goes(1, 3), 9980 + 9999 + 0);
        NextDoorBrides y = Given.houses(16, 0, 0, 9999);
        Due.same("goes(60, 3) of sixteen", y.goes(60, 3), 159984);
    }

    private static void goesThatCantBe() {
        Due.says("GOES what 0 WEDDINGS, 1 GONE, 2 GAPS, 3 DOWRIES. NONE if one can't be, or another what.");
        NextDoorBrides x = lawful("goes 1000;", Given.h(1, 1, 3), Given.h(1, 1, 3));
        for (int n : new int[] {0, -1, 61, LOW, FAR}) {
            for (int what = 0; what <= 3; what++) {
                Due.same("goes(" + n + ", " + what + ")", x.goes(n, what), -1);
            }
        }
        for (int what : new int[] {-1, 4, LOW, FAR}) {
            Due.same("goes(1, " + what + ")", x.goes(1, what), -1);
            Due.same("goes(60, " + what + ")", x.goes(60, what), -1);
        }
    }

    private static void goesBeyondTheLast() {
        Due.reads("in thought GENERATION counts on beyond 9999");
        NextDoorBrides x = lawful("goes 1000;bears 0;", Given.h(0, 0, 0), Given.h(0, 0, 0));
        Given.pass(x, 9999);
        x.set(0, 0, 9);
        Due.same("goes(60, 2)", x.goes(60, 2), 60);
        Due.same("look(6)", x.look(6), 9999);
        Due.same("jug(1)", x.jug(1), -1);
    }

    private static void jugNow() {
        Due.says("behind how many GENERATIONS the JUG is first where HOUSE h is (0: now");
        NextDoorBrides x = lawful("goes 1000;bears 0;", Given.h(1, 0, 0), Given.h(0, 1, 0));
        Due.same("jug(0), though it goes at once", x.jug(0), 0);
        Due.same("jug(1)", x.jug(1), 1);
        // first: it comes to house 0 again and again
        NextDoorBrides y = Given.houses(2, 0, 0, 0);
        Due.tell(y, 1, "in 3 jug 1;in 4 jug 0;in 5 jug 1;");
        Due.same("jug(0)", y.jug(0), 0);
        Due.same("jug(1)", y.jug(1), 4);
        Given.pass(y, 4);
        Due.same("jug(0), behind generation 4", y.jug(0), 1);
        Due.same("jug(1), now", y.jug(1), 0);
        // where it only passes through within a generation it is not
        NextDoorBrides z = lawful("goes 1000;bears 0;", Given.h(1, 0, 0), Given.h(1, 1, 0), Given.h(0, 1, 0));
        Due.same("jug(1)", z.jug(1), -1);
        Due.same("jug(2)", z.jug(2), 1);
    }

    private static void jugWithinSixty() {
        Due.says("NONE: not within 60)");
        NextDoorBrides x = Given.houses(2, 0, 0, 0);
        int[][] cases = {{0, 1}, {1, 2}, {58, 59}, {59, 60}, {60, -1}, {999, -1}};
        for (int[] c : cases) {
            Due.tell(x, 1, "in " + c[0] + " jug 1;");
            Due.same("jug(1) by a plan for " + c[0], x.jug(1), c[1]);
        }
        Due.tell(x, 1, "");
        Due.same("jug(1), never", x.jug(1), -1);
    }

    private static void jugOfNoneSuch() {
        Due.says("JUG home; NONE, too, if there is none such.");
        NextDoorBrides x = Given.houses(2, 0, 0, 0);
        for (int who : new int[] {-1, 2, 15, 16, LOW, FAR}) {
            Due.same("jug(" + who + ")", x.jug(who), -1);
        }
        Due.same("jug(-1) without houses", new NextDoorBrides().jug(-1), -1);
        Due.same("jug(0) without houses", new NextDoorBrides().jug(0), -1);
        Due.same("jug(15) of sixteen", Given.houses(16, 0, 0, 0).jug(15), -1);
        Due.same("jug(0) of sixteen", Given.houses(16, 0, 0, 0).jug(0), 0);
    }

    private static void feudsAre(int houses, String text, int kings, int longest) {
        NextDoorBrides x = Given.houses(houses, 0, 0, 0);
        Due.no("the text has a fault", Due.tell(x, 2, text) == -1);
        Due.same("feuds(0) of " + houses + " by '" + text + "'", x.feuds(0), kings);
        Due.same("feuds(1) of " + houses + " by '" + text + "'", x.feuds(1), longest);
    }

    private static void above() {
        Due.says("a stands above b, if a has a feud with b and b none with a");
        feudsAre(2, "house 0 feud 1;", 1, 2);
        feudsAre(2, "house 1 feud 0;", 2, 2);
        feudsAre(2, "house 0 feud 1;house 1 feud 0;", 0, 1);
        feudsAre(2, "", 0, 1);
        feudsAre(3, "house 0 feud 1;house 1 feud 0;house 0 feud 2;house 2 feud 1;", 1, 3);
    }

    private static void kings() {
        Due.says("KINGS: HOUSES that stand, for each other one, above it or above one who stands above it");
        feudsAre(3, "house 0 feud 1;house 1 feud 2;", 1, 3);
        feudsAre(3, "house 0 feud 1;house 1 feud 2;house 2 feud 0;", 7, 3);
        // over two others is too far
        feudsAre(4, "house 0 feud 1;house 1 feud 2;house 2 feud 3;", 0, 4);
        feudsAre(4, "house 0 feud 1;house 1 feud 2;house 0 feud 3;", 1, 3);
        feudsAre(4, "house 0 feud 1;house 1 feud 2;house 1 feud 3;", 1, 3);
        // one house that nobody stands above is enough
        feudsAre(4, "house 0 feud 1;house 1 feud 2;house 2 feud 0;", 0, 3);
        feudsAre(4, "house 3 feud 2;house 2 feud 0;house 2 feud 1;house 0 feud 3;house 1 feud 0;", 8 + 4, 4);
        StringBuilder all = new StringBuilder();
        for (int who = 1; who < 16; who++) {
            all.append("house 0 feud ").append(who).append(';');
        }
        feudsAre(16, all.toString(), 1, 2);
        feudsAre(16, all.toString().replace("house 0 feud 15;", ""), 0, 2);
        feudsAre(16, all.toString().replace("house 0 feud 15;", "house 14 feud 15;"), 1, 2);
    }

    private static void oneAlone() {
        Due.says("(one alone: it): a set");
        feudsAre(0, "", 0, 0);
        feudsAre(1, "", 1, 1);
    }

    private static void longest() {
        Due.says("the longest row in which each stands above the next one, no HOUSE twice.");
        feudsAre(3, "", 0, 1);
        feudsAre(4, "house 0 feud 1;house 2 feud 3;", 0, 2);
        // a ring of three with a way in and a way out
        feudsAre(5, "house 0 feud 1;house 1 feud 2;house 2 feud 3;house 3 feud 1;house 3 feud 4;", 0, 5);
        feudsAre(5, "house 0 feud 1;house 1 feud 2;house 2 feud 3;house 3 feud 4;house 4 feud 0;", 0, 5);
        // the first way found is not the longest
        feudsAre(5, "house 0 feud 1;house 0 feud 4;house 4 feud 2;house 2 feud 1;", 0, 4);
    }

    private static void longestOfTwelve() {
        Due.says("LONGEST: of HOUSES 0 .. 11");
        StringBuilder row = new StringBuilder();
        for (int who = 0; who < 15; who++) {
            row.append("house ").append(who).append(" feud ").append(who + 1).append(';');
        }
        feudsAre(16, row.toString(), 0, 12);
        feudsAre(16, "house 11 feud 10;house 10 feud 0;", 0, 3);
        feudsAre(16, "house 12 feud 11;house 11 feud 10;", 0, 2);
        feudsAre(16, "house 11 feud 12;house 12 feud 13;", 0, 1);
        feudsAre(16, "house 0 feud 12;house 12 feud 1;house 1 feud 2;", 0, 2);
        feudsAre(12, row.substring(0, row.indexOf("house 11 ")), 0, 12);
        feudsAre(13, row.substring(0, row.indexOf("house 12 ")), 0, 12);
        // all round
        feudsAre(12, row.substring(0, row.indexOf("house 11 ")) + "house 11 feud 0;", 0, 12);
    }

    private static void feudsOfAnother() {
        Due.says("What 0 KINGS (a set), 1 LONGEST (how many). NONE for another what.");
        NextDoorBrides x = Given.houses(2, 0, 0, 0);
        for (int what : new int[] {-1, 2, 3, LOW, FAR}) {
            Due.same("feuds(" + what + ")", x.feuds(what), -1);
            Due.same("feuds(" + what + ") without houses", new NextDoorBrides().feuds(what), -1);
        }
    }
}

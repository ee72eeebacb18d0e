/** Boundary cases of "Terms" 4 about what is told for thought and about numbers alone: the promises 15 to 22 and 24 to 33. */
public final class ToldEdgesTest {
    private static final int FAR = Given.FAR;
    private static final int LOW = Given.LOW;
    private static final int NONE = -1;

    private ToldEdgesTest() {
    }

    public static void main(String[] args) {
        face();
        pass();
        meetsThatCantBe();
        planned();
        childTold();
        siding();
        sidingThatCantBe();
        boughtRows();
        boughtCountsForNothing();
        boughtTold();
        pushed();
        pushedOfEach();
        dowryTold();
        akin();
        personTold();
        akinOfNoneSuch();
        home();
        homeThatCantBe();
        streets();
        streetsThatCantBe();
        chain();
        movedTold();
        order();
        orderThatCantBe();
        windows();
        rising();
        heightTold();
        game();
        gameThatCantBe();
        Due.finish();
    }

    private static NextDoorBrides fresh() {
        return new NextDoorBrides();
    }

    private static void meet(int n, int k, int a, int b, int behind, int pass) {
        int ab = 1000 * a + b;
        Due.same("meets(" + n + ", " + k + ", " + ab + ", 0)", fresh().meets(n, k, ab, 0), behind);
        Due.same("meets(" + n + ", " + k + ", " + ab + ", 1)", fresh().meets(n, k, ab, 1), pass);
    }

    private static void face() {
        Due.says("behind how many generations they first stand at one door (0: now; NONE: never)");
        meet(2, 1, 0, 0, 0, 0);
        meet(2, 1, 1, 1, 0, 0);
        meet(500, 9, 499, 499, 0, 0);
        // both one door on a ring of two change places for ever
        meet(2, 1, 0, 1, NONE, 1);
        meet(2, 1, 1, 0, NONE, 1);
        meet(2, 2, 0, 1, 1, 1);
        meet(2, 9, 0, 1, NONE, 1);
        // the longest way: 3 and 500 have no common part, 499 generations
        meet(500, 2, 0, 497, 499, 1);
        meet(500, 2, 0, 3, 1, 0);
        meet(499, 1, 0, 497, 498, 1);
        meet(500, 1, 0, 499, NONE, 1);
        meet(500, 9, 0, 490, 49, 0);
        meet(500, 9, 490, 0, 1, 0);
    }

    private static void pass() {
        Due.says("the doors from the first one's on to the other one's (modulo n) are once (behind 0 generations, too) fewer than k and 1, but not 0; else 0.");
        meet(100, 3, 0, 4, 1, 0);
        meet(100, 3, 0, 8, 2, 0);
        meet(100, 3, 0, 3, NONE, 1);
        meet(100, 3, 0, 1, NONE, 1);
        meet(100, 3, 0, 5, NONE, 1);
        meet(100, 3, 0, 99, NONE, 1);
        // on a ring of seven, two doors back: 4, 1, 5, 2, 6, 3, 0
        meet(7, 2, 0, 4, 6, 1);
        meet(7, 2, 0, 3, 1, 0);
        meet(7, 2, 0, 6, 2, 0);
        // from door 5 on to door 1 of seven there are three
        meet(7, 2, 5, 1, 1, 0);
        meet(7, 2, 6, 0, 5, 1);
        // ahead of that, not behind it
        meet(9, 1, 0, 2, 1, 0);
        // k is more than the ring has doors
        meet(3, 9, 0, 1, 1, 1);
        meet(3, 8, 0, 1, NONE, 1);
    }

    private static void meetsThatCantBe() {
        Due.says("NONE if one can't be (a, b 0 .. n - 1), or another what; ab is 1000 times a and b.");
        int[][] wrong = {{1, 1, 0}, {0, 1, 0}, {-1, 1, 0}, {501, 1, 0}, {LOW, 1, 0}, {FAR, 1, 0}, {10, 0, 4}, {10, 10, 4}, {10, -1, 4},
            {10, LOW, 4}, {10, FAR, 4}, {10, 1, 10}, {10, 1, 10000}, {10, 1, 10004}, {10, 1, 4010}, {10, 1, 999}, {10, 1, -1}, {10, 1, -1000},
            {10, 1, -996}, {10, 1, LOW}, {10, 1, FAR}, {500, 1, 500}, {500, 1, 500000}, {2, 1, 2}, {2, 1, 2000}};
        for (int[] w : wrong) {
            for (int what = 0; what <= 1; what++) {
                Due.same("meets(" + w[0] + ", " + w[1] + ", " + w[2] + ", " + what + ")", fresh().meets(w[0], w[1], w[2], what), NONE);
            }
        }
        for (int what : new int[] {-1, 2, LOW, FAR}) {
            Due.same("meets(10, 1, 4, " + what + ")", fresh().meets(10, 1, 4, what), NONE);
        }
        int[][] right = {{2, 1, 0}, {500, 9, 499499}, {10, 1, 9009}, {10, 9, 0}};
        for (int[] r : right) {
            Due.same("meets(" + r[0] + ", " + r[1] + ", " + r[2] + ", 0)", fresh().meets(r[0], r[1], r[2], 0), 0);
        }
    }

    private static void plannedIs(String row, int first, int second) {
        NextDoorBrides x = fresh();
        for (char c : row.toCharArray()) {
            x.child(c - '0');
        }
        Due.same("planned(0) of '" + row + "'", x.planned(0), first);
        Due.same("planned(1) of '" + row + "'", x.planned(1), second);
    }

    private static void planned() {
        Due.says("PLANNED: up to 12 told children (0 a girl, 1 a boy) in a row: the fewest to be changed");
        plannedIs("", 0, 0);
        plannedIs("0", 0, 0);
        plannedIs("1", 0, 0);
        plannedIs("00", 1, 1);
        plannedIs("11", 0, 1);
        plannedIs("01", 0, 0);
        plannedIs("000", 1, 1);
        plannedIs("0000", 2, 2);
        plannedIs("00100", 2, 2);
        plannedIs("00010001", 2, 2);
        plannedIs("000000000000", 6, 6);
        plannedIs("111111111111", 0, 6);
        plannedIs("010101010101", 0, 0);
        plannedIs("101010101010", 0, 0);
        plannedIs("101010101011", 0, 1);
        plannedIs("110010010101", 2, 4);
    }

    private static void childTold() {
        Due.says("A child for PLANNED (NONE: none is then): how many; NONE if one can't be, or there are twelve.");
        NextDoorBrides x = fresh();
        Due.same("child(NONE) of none", x.child(-1), 0);
        for (int i = 1; i <= 12; i++) {
            Due.same("child(0)", x.child(0), i);
        }
        for (int v : new int[] {0, 1, 2, -2, LOW, FAR}) {
            Due.same("child(" + v + ") at twelve", x.child(v), NONE);
        }
        Due.same("planned(0)", x.planned(0), 6);
        Due.same("child(NONE)", x.child(-1), 0);
        Due.same("planned(0)", x.planned(0), 0);
        Due.same("child(1)", x.child(1), 1);
        for (int v : new int[] {2, -2, LOW, FAR}) {
            Due.same("child(" + v + ")", x.child(v), NONE);
        }
        Due.same("child(0)", x.child(0), 2);
        Due.says("PLANNED what 0 the first, 1 the second. NONE for another what.");
        for (int what : new int[] {-1, 2, 12, LOW, FAR}) {
            Due.same("planned(" + what + ")", x.planned(what), NONE);
        }
    }

    private static void sidingIs(int row, int whether, int most, int rows) {
        Due.same("siding(" + row + ", 0)", fresh().siding(row, 0), whether);
        Due.same("siding(" + row + ", 1)", fresh().siding(row, 1), most);
        Due.same("siding(" + row + ", 2)", fresh().siding(row, 2), rows);
    }

    private static void siding() {
        Due.says("whether they can go on as 0, 1, 2 ..: 1, 0; how many are in the siding at most at once, if as few as can be go in (NONE: they can't); how many rows of n can go on so.");
        sidingIs(10, 1, 0, 1);
        sidingIs(101, 1, 0, 2);
        sidingIs(110, 1, 1, 2);
        sidingIs(1012, 1, 0, 5);
        sidingIs(1021, 1, 1, 5);
        sidingIs(1102, 1, 1, 5);
        sidingIs(1201, 1, 1, 5);
        sidingIs(1210, 1, 2, 5);
        sidingIs(1120, 0, NONE, 5);
        // 1 waits alone, then 3: never two at once
        sidingIs(110324, 1, 1, 42);
        sidingIs(1012345678, 1, 0, 4862);
        sidingIs(1876543210, 1, 8, 4862);
        sidingIs(1012345687, 1, 1, 4862);
        sidingIs(1812345670, 0, NONE, 4862);
        sidingIs(1801234567, 1, 1, 4862);
        sidingIs(1012345786, 0, NONE, 4862);
        sidingIs(107654321, 1, 6, 1430);
    }

    private static void sidingThatCantBe() {
        Due.says("a told row of 1 .. 9 digits behind a 1 (each of 0 .. n - 1 once)");
        int[] wrong = {1, 0, -1, 2, 9, 11, 12, 19, 20, 100, 102, 111, 1011, 1022, 1013, 1123, 2012, 3, 210, 1012345679, 1123456789,
            1012345677, 2012345678, 1999999999, 2147483647, -10, -101, LOW, FAR};
        for (int row : wrong) {
            for (int what = 0; what <= 2; what++) {
                Due.same("siding(" + row + ", " + what + ")", fresh().siding(row, what), NONE);
            }
        }
        Due.says("SIDING what 0 whether, 1 how many at most, 2 how many rows of as many digits. NONE if one can't be, or another what.");
        for (int what : new int[] {-1, 3, LOW, FAR}) {
            Due.same("siding(101, " + what + ")", fresh().siding(101, what), NONE);
        }
    }

    private static NextDoorBrides couples(int... ab) {
        NextDoorBrides x = fresh();
        for (int i = 0; i < ab.length; i += 2) {
            Due.same("bought(" + ab[i] + ", " + ab[i + 1] + ")", x.bought(ab[i], ab[i + 1]), i / 2 + 1);
        }
        return x;
    }

    private static void rowsAre(NextDoorBrides x, int n, int beside, int behind) {
        Due.same("rows(" + n + ", 0)", x.rows(n, 0), beside);
        Due.same("rows(" + n + ", 1)", x.rows(n, 1), behind);
    }

    private static void boughtRows() {
        Due.says("BOUGHT: rows of all of 0 .. n - 1 (n 2 .. 9)");
        int[] all = {2, 6, 24, 120, 720, 5040, 40320, 362880};
        for (int n = 2; n <= 9; n++) {
            rowsAre(fresh(), n, all[n - 2], all[n - 2]);
        }
        for (int n : new int[] {1, 0, -1, 10, LOW, FAR}) {
            rowsAre(fresh(), n, NONE, NONE);
        }
        Due.says("in how many each couple stands side by side; in how many each a is the next one behind its b.");
        rowsAre(couples(0, 1), 2, 2, 1);
        rowsAre(couples(0, 1, 1, 0), 2, 2, 0);
        rowsAre(couples(0, 1, 0, 1), 2, 2, 1);
        rowsAre(couples(0, 1, 2, 1), 3, 2, 0);
        rowsAre(couples(1, 0, 1, 2), 3, 2, 0);
        rowsAre(couples(0, 1, 1, 2), 3, 2, 1);
        rowsAre(couples(0, 1, 1, 2, 2, 0), 3, 0, 0);
        rowsAre(couples(0, 1, 1, 2, 2, 0), 9, 0, 0);
        rowsAre(couples(0, 1, 0, 2, 0, 3), 4, 0, 0);
        rowsAre(couples(0, 1, 2, 3), 4, 8, 2);
        rowsAre(couples(0, 1, 1, 2, 2, 3, 3, 4, 4, 5, 5, 6), 7, 2, 1);
        rowsAre(couples(0, 1, 1, 2, 2, 3, 3, 4, 4, 5, 5, 6), 9, 12, 6);
        rowsAre(couples(7, 8, 8, 7, 7, 8, 8, 7, 7, 8, 8, 7), 9, 80640, 0);
        rowsAre(couples(0, 1, 1, 2, 2, 3, 3, 0), 9, 0, 0);
    }

    private static void boughtCountsForNothing() {
        Due.says("one with a number n at least counts for nothing");
        NextDoorBrides x = couples(2, 3);
        rowsAre(x, 2, 2, 2);
        rowsAre(x, 3, 6, 6);
        rowsAre(x, 4, 12, 6);
        NextDoorBrides y = couples(8, 0, 0, 8, 7, 1);
        rowsAre(y, 7, 5040, 5040);
        rowsAre(y, 8, 10080, 5040);
        rowsAre(y, 9, 20160, 0);
    }

    private static void boughtTold() {
        Due.says("A couple for BOUGHT (a NONE: none is then): how many; NONE if one can't be (alike), or there are six.");
        NextDoorBrides x = fresh();
        int[][] wrong = {{0, 0}, {8, 8}, {9, 0}, {0, 9}, {-2, 0}, {0, -1}, {0, -2}, {LOW, 0}, {0, LOW}, {FAR, 0}, {0, FAR}, {-10, 3}};
        for (int[] w : wrong) {
            Due.same("bought(" + w[0] + ", " + w[1] + ")", x.bought(w[0], w[1]), NONE);
        }
        rowsAre(x, 9, 362880, 362880);
        for (int i = 1; i <= 6; i++) {
            Due.same("bought(8, 0)", x.bought(8, 0), i);
        }
        Due.same("bought(0, 1), the seventh", x.bought(0, 1), NONE);
        Due.same("bought(0, 0) at six", x.bought(0, 0), NONE);
        rowsAre(x, 9, 80640, 40320);
        for (int b : new int[] {-1, 0, 9, LOW, FAR}) {
            Due.same("bought(NONE, " + b + ")", x.bought(-1, b), 0);
            rowsAre(x, 9, 362880, 362880);
            Due.same("bought(0, 8)", x.bought(0, 8), 1);
        }
        Due.says("NONE if n can't be, or another what.");
        for (int what : new int[] {-1, 2, LOW, FAR}) {
            Due.same("rows(3, " + what + ")", x.rows(3, what), NONE);
        }
    }

    private static void pushedIs(int[] row, int times, int... left) {
        NextDoorBrides x = fresh();
        for (int v : row) {
            x.dowry(v);
        }
        Due.same("pushed(0)", x.pushed(0), times);
        for (int i = 0; i < left.length; i++) {
            Due.same("pushed(" + (1 + i) + ")", x.pushed(1 + i), left[i]);
        }
        Due.same("pushed(" + (1 + left.length) + ")", x.pushed(1 + left.length), NONE);
    }

    private static int[] row(int... v) {
        return v;
    }

    private static void pushed() {
        Due.says("who has two at least gives one to each side (beyond the ends: lost), again and again till nobody has two");
        pushedIs(row(), 0);
        pushedIs(row(0), 0, 0);
        pushedIs(row(1), 0, 1);
        pushedIs(row(2), 1, 0);
        pushedIs(row(3), 1, 1);
        pushedIs(row(60), 30, 0);
        pushedIs(row(1, 1), 0, 1, 1);
        pushedIs(row(2, 0), 1, 0, 1);
        pushedIs(row(0, 2), 1, 1, 0);
        pushedIs(row(2, 1), 2, 1, 0);
        pushedIs(row(1, 1, 1, 1, 1, 1, 1, 1, 1, 1), 0, 1, 1, 1, 1, 1, 1, 1, 1, 1, 1);
        pushedIs(row(0, 0, 0, 0, 0, 0, 0, 0, 0, 2), 1, 0, 0, 0, 0, 0, 0, 0, 0, 1, 0);
        pushedIs(row(2, 1, 1, 1, 1, 1, 1, 1, 1, 1), 10, 1, 1, 1, 1, 1, 1, 1, 1, 1, 0);
        // the i-th pushes 59 i (11 - i) by 2 times, as each loses 59 of its 60 in all
        pushedIs(row(60, 60, 60, 60, 60, 60, 60, 60, 60, 60), 6490, 1, 1, 1, 1, 1, 1, 1, 1, 1, 1);
    }

    private static void pushedOfEach() {
        Due.says("PUSHED what 0 how many times, 1 + i what the i-th has. NONE if there is none such, or another what.");
        NextDoorBrides x = fresh();
        for (int what : new int[] {-1, 1, 2, 11, LOW, FAR}) {
            Due.same("pushed(" + what + ") of none", x.pushed(what), NONE);
        }
        for (int i = 0; i < 10; i++) {
            x.dowry(i % 2);
        }
        for (int what = 1; what <= 10; what++) {
            Due.same("pushed(" + what + ")", x.pushed(what), (what - 1) % 2);
        }
        for (int what : new int[] {-1, 11, 12, LOW, FAR}) {
            Due.same("pushed(" + what + ")", x.pushed(what), NONE);
        }
    }

    private static void dowryTold() {
        Due.says("A dowry for PUSHED (NONE: none is then): how many; NONE if one can't be, or there are ten.");
        NextDoorBrides x = fresh();
        Due.same("dowry(NONE) of none", x.dowry(-1), 0);
        for (int v : new int[] {-2, 61, LOW, FAR}) {
            Due.same("dowry(" + v + ")", x.dowry(v), NONE);
        }
        Due.same("dowry(0)", x.dowry(0), 1);
        Due.same("dowry(60)", x.dowry(60), 2);
        for (int i = 3; i <= 10; i++) {
            Due.same("dowry(1)", x.dowry(1), i);
        }
        for (int v : new int[] {0, 1, 60, 61, -2}) {
            Due.same("dowry(" + v + ") at ten", x.dowry(v), NONE);
        }
        Due.same("dowry(NONE)", x.dowry(-1), 0);
        Due.same("pushed(0)", x.pushed(0), 0);
        Due.same("pushed(1)", x.pushed(1), NONE);
        Due.same("dowry(2)", x.dowry(2), 1);
    }

    private static void akinIs(NextDoorBrides x, int i, int j, int above, int below) {
        Due.same("akin(" + i + ", " + j + ", 0)", x.akin(i, j, 0), above);
        Due.same("akin(" + i + ", " + j + ", 1)", x.akin(i, j, 1), below);
        Due.same("akin(" + j + ", " + i + ", 0)", x.akin(j, i, 0), above);
        Due.same("akin(" + j + ", " + i + ", 1)", x.akin(j, i, 1), below);
    }

    private static NextDoorBrides persons(int... ab) {
        NextDoorBrides x = fresh();
        for (int i = 0; i < ab.length; i += 2) {
            Due.same("person(" + ab[i] + ", " + ab[i + 1] + ")", x.person(ab[i], ab[i + 1]), i / 2);
        }
        return x;
    }

    private static void akin() {
        Due.says("AKIN of i and i: a half, and half of what his parents are to one another (without parents: a half)");
        NextDoorBrides x = persons(-1, -1, -1, -1, 0, 1, 0, 1, 2, 3, 4, 3);
        akinIs(x, 0, 0, 1, 2);
        akinIs(x, 2, 2, 1, 2);
        akinIs(x, 4, 4, 5, 8);
        akinIs(x, 5, 5, 11, 16);
        Due.says("of i and one told before him (in any order of both): half of what both his parents are to that one, together (without parents: 0)");
        akinIs(x, 0, 1, 0, 1);
        akinIs(x, 2, 0, 1, 4);
        akinIs(x, 3, 2, 1, 4);
        akinIs(x, 4, 2, 3, 8);
        akinIs(x, 4, 0, 1, 4);
        akinIs(x, 5, 4, 1, 2);
        akinIs(x, 5, 3, 7, 16);
        Due.says("as a fraction in lowest terms.");
        // one who is told later has parents who stand on both sides of the other one
        NextDoorBrides y = persons(-1, -1, -1, -1, 1, 0, -1, -1, 0, 3, 2, 4);
        akinIs(y, 4, 2, 1, 8);
        akinIs(y, 5, 3, 1, 8);
        akinIs(y, 5, 1, 1, 8);
        akinIs(y, 5, 0, 1, 4);
        akinIs(y, 5, 5, 9, 16);
        // fourteen, each of the two before him
        NextDoorBrides z = persons(-1, -1, -1, -1, 0, 1, 1, 2, 2, 3, 3, 4, 4, 5, 5, 6, 6, 7, 7, 8, 8, 9, 9, 10, 10, 11, 11, 12);
        akinIs(z, 3, 3, 5, 8);
        akinIs(z, 13, 0, 1365, 8192);
        akinIs(z, 13, 1, 2731, 8192);
    }

    private static void personTold() {
        Due.says("A person for KIN (a NONE - 9: none is then): the number (from 0); NONE if one can't be (one parent alone; not told before), or there are fourteen.");
        NextDoorBrides x = fresh();
        int[][] none = {{0, 0}, {0, 1}, {-1, 0}, {0, -1}, {-2, -2}, {-9, -1}, {-11, -1}, {LOW, LOW}, {FAR, FAR}};
        for (int[] w : none) {
            Due.same("person(" + w[0] + ", " + w[1] + ") of none", x.person(w[0], w[1]), NONE);
        }
        Due.same("person(NONE, NONE)", x.person(-1, -1), 0);
        Due.same("person(0, 0), alike", x.person(0, 0), NONE);
        Due.same("person(0, 1), himself", x.person(0, 1), NONE);
        Due.same("person(1, 0), himself", x.person(1, 0), NONE);
        Due.same("person(NONE, NONE)", x.person(-1, -1), 1);
        int[][] wrong = {{0, -1}, {-1, 0}, {1, 1}, {0, 2}, {2, 0}, {2, 3}, {0, -2}, {-2, 0}, {0, -10}, {-1, -10}, {-1, -2}, {-2, -1}, {LOW, 0}, {0, FAR}};
        for (int[] w : wrong) {
            Due.same("person(" + w[0] + ", " + w[1] + ")", x.person(w[0], w[1]), NONE);
        }
        Due.same("person(1, 0)", x.person(1, 0), 2);
        for (int i = 3; i < 14; i++) {
            Due.same("person(" + (i - 1) + ", 0)", x.person(i - 1, 0), i);
        }
        Due.same("person(NONE, NONE), the fifteenth", x.person(-1, -1), NONE);
        Due.same("person(13, 0), the fifteenth", x.person(13, 0), NONE);
        Due.same("akin(14, 14, 1)", x.akin(14, 14, 1), NONE);
        int cleared = x.person(-10, 99);
        Due.same("akin(0, 0, 0), none is then", x.akin(0, 0, 0), NONE);
        Due.same("person(0, 1), not told before", x.person(0, 1), NONE);
        Due.same("person(NONE, NONE)", x.person(-1, -1), 0);
        Due.reads("person(NONE - 9, b) answers 0, as many as there are then");
        Due.same("person(NONE - 9, 99)", cleared, 0);
        for (int b : new int[] {-1, 0, LOW, FAR}) {
            Due.same("person(NONE - 9, " + b + ")", x.person(-10, b), 0);
        }
    }

    private static void akinOfNoneSuch() {
        Due.says("AKIN what 0 above, 1 below. NONE if there is none such, or another what.");
        Due.same("akin(0, 0, 0) of none", fresh().akin(0, 0, 0), NONE);
        NextDoorBrides x = persons(-1, -1, -1, -1);
        for (int i : new int[] {-1, 2, 13, 14, LOW, FAR}) {
            for (int what = 0; what <= 1; what++) {
                Due.same("akin(" + i + ", 0, " + what + ")", x.akin(i, 0, what), NONE);
                Due.same("akin(0, " + i + ", " + what + ")", x.akin(0, i, what), NONE);
                Due.same("akin(" + i + ", " + i + ", " + what + ")", x.akin(i, i, what), NONE);
            }
        }
        for (int what : new int[] {-1, 2, LOW, FAR}) {
            Due.same("akin(1, 0, " + what + ")", x.akin(1, 0, what), NONE);
        }
    }

    private static void homeIs(int i, int n, int ab, int above, int below) {
        Due.same("home(" + i + ", " + n + ", " + ab + ", 0)", fresh().home(i, n, ab, 0), above);
        Due.same("home(" + i + ", " + n + ", " + ab + ", 1)", fresh().home(i, n, ab, 1), below);
    }

    private static void home() {
        Due.says("HOME: the JUG at door i of 0 .. n (1 .. 8): it goes one on by a chance a by b (1 .. 5 by 2 .. 6, a less than b), else back, till it is at 0 or n");
        for (int n = 1; n <= 8; n++) {
            homeIs(0, n, 12, 0, 1);
            homeIs(n, n, 12, 1, 1);
            homeIs(0, n, 56, 0, 1);
            homeIs(n, n, 56, 1, 1);
            homeIs(1, n, 12, 1, n);
        }
        homeIs(4, 8, 12, 1, 2);
        homeIs(6, 8, 12, 3, 4);
        homeIs(1, 2, 13, 1, 3);
        homeIs(1, 2, 26, 1, 3);
        homeIs(1, 2, 24, 1, 2);
        homeIs(4, 8, 36, 1, 2);
        homeIs(1, 2, 16, 1, 6);
        homeIs(1, 2, 56, 5, 6);
        homeIs(1, 8, 16, 1, 97656);
        homeIs(7, 8, 16, 19531, 97656);
        homeIs(1, 8, 56, 78125, 97656);
        homeIs(7, 8, 56, 97655, 97656);
    }

    private static void homeThatCantBe() {
        Due.says("HOME of i of 0 .. n (i 0 .. n), ab is 10 times a and b, what 0 above, 1 below. NONE if one can't be, or another what.");
        int[][] wrong = {{0, 0, 12}, {0, -1, 12}, {0, 9, 12}, {0, LOW, 12}, {0, FAR, 12}, {-1, 3, 12}, {4, 3, 12}, {9, 8, 12}, {LOW, 3, 12},
            {FAR, 3, 12}, {1, 3, 0}, {1, 3, 2}, {1, 3, 6}, {1, 3, 10}, {1, 3, 11}, {1, 3, 17}, {1, 3, 19}, {1, 3, 20}, {1, 3, 21}, {1, 3, 22},
            {1, 3, 33}, {1, 3, 43}, {1, 3, 55}, {1, 3, 57}, {1, 3, 60}, {1, 3, 66}, {1, 3, 67}, {1, 3, 112}, {1, 3, -12}, {1, 3, -8},
            {1, 3, LOW}, {1, 3, FAR}};
        for (int[] w : wrong) {
            for (int what = 0; what <= 1; what++) {
                Due.same("home(" + w[0] + ", " + w[1] + ", " + w[2] + ", " + what + ")", fresh().home(w[0], w[1], w[2], what), NONE);
            }
        }
        for (int what : new int[] {-1, 2, LOW, FAR}) {
            Due.same("home(1, 3, 12, " + what + ")", fresh().home(1, 3, 12, what), NONE);
        }
    }

    private static void streetsAre(int n, int k, int turned, int behind) {
        Due.same("streets(" + n + ", " + k + ", 0)", fresh().streets(n, k, 0), turned);
        Due.same("streets(" + n + ", " + k + ", 1)", fresh().streets(n, k, 1), behind);
    }

    private static void streets() {
        Due.says("STREETS: rings of n (1 .. 12) houses painted by k (1 .. 4) colours: how many that are not the same turned; nor the same from behind.");
        for (int n = 1; n <= 12; n++) {
            streetsAre(n, 1, 1, 1);
        }
        int[][] small = {{1, 4, 4, 4}, {2, 2, 3, 3}, {2, 4, 10, 10}, {3, 2, 4, 4}, {3, 3, 11, 10}, {5, 2, 8, 8}, {6, 2, 14, 13}, {7, 2, 20, 18},
            {12, 2, 352, 224}, {12, 3, 44368, 22913}, {11, 4, 381304, 192700}, {12, 4, 1398500, 704370}};
        for (int[] s : small) {
            streetsAre(s[0], s[1], s[2], s[3]);
        }
    }

    private static void streetsThatCantBe() {
        Due.says("STREETS what 0 turned, 1 from behind, too. NONE if one can't be, or another what.");
        int[][] wrong = {{0, 2}, {-1, 2}, {13, 2}, {LOW, 2}, {FAR, 2}, {3, 0}, {3, -1}, {3, 5}, {3, LOW}, {3, FAR}};
        for (int[] w : wrong) {
            streetsAre(w[0], w[1], NONE, NONE);
        }
        for (int what : new int[] {-1, 2, LOW, FAR}) {
            Due.same("streets(3, 2, " + what + ")", fresh().streets(3, 2, what), NONE);
        }
    }

    private static void chainIs(int due, int... ab) {
        NextDoorBrides x = fresh();
        for (int i = 0; i < ab.length; i += 2) {
            Due.yes("moved(" + ab[i] + ", " + ab[i + 1] + ")", x.moved(ab[i], ab[i + 1]));
        }
        Due.same("chain()", x.chain(), due);
    }

    private static void chain() {
        Due.says("each stays (at first), wants one other house, or his house is empty (told last counts)");
        chainIs(0);
        chainIs(0, 0, 9);
        chainIs(1, 0, 9, 9, -2);
        chainIs(0, 0, 9, 9, -2, 9, -1);
        chainIs(0, 0, 9, 9, -2, 0, -1);
        chainIs(2, 0, 9, 9, -1, 9, 0);
        chainIs(0, 0, -2, 1, -2);
        chainIs(0, 0, 1, 1, -2, 0, -2);
        Due.says("the most that can move at once, each into the one he wants, no two into one, if who lives there moves, too, or it is empty.");
        chainIs(10, 0, 1, 1, 2, 2, 3, 3, 4, 4, 5, 5, 6, 6, 7, 7, 8, 8, 9, 9, 0);
        chainIs(9, 0, 1, 1, 2, 2, 3, 3, 4, 4, 5, 5, 6, 6, 7, 7, 8, 8, 9, 9, -2);
        chainIs(0, 0, 1, 1, 2, 2, 3, 3, 4, 4, 5, 5, 6, 6, 7, 7, 8, 8, 9);
        chainIs(10, 0, 1, 1, 0, 2, 3, 3, 4, 4, 2, 5, 6, 6, 5, 7, 8, 8, 9, 9, 7);
        // nine want one that is empty
        chainIs(1, 0, 9, 1, 9, 2, 9, 3, 9, 4, 9, 5, 9, 6, 9, 7, 9, 8, 9, 9, -2);
        // the longer of two ways
        chainIs(3, 0, 9, 1, 0, 2, 9, 3, 2, 4, 3, 9, -2);
        // into a ring nobody can, and behind one who stays nobody
        chainIs(2, 0, 1, 1, 0, 2, 0, 3, 2);
        chainIs(0, 0, 1, 2, 0);
        chainIs(4, 0, 1, 1, 0, 2, 3, 3, 4, 4, -2);
    }

    private static void movedTold() {
        Due.says("MOVED: who lives in a wants b (NONE: stays; NONE - 1: a is empty): true; false if one can't be (alike).");
        NextDoorBrides x = fresh();
        Due.yes("moved(0, 9)", x.moved(0, 9));
        Due.yes("moved(9, 0)", x.moved(9, 0));
        Due.same("chain()", x.chain(), 2);
        int[][] wrong = {{0, 0}, {9, 9}, {-1, 0}, {10, 0}, {0, 10}, {0, -3}, {-1, -1}, {-2, -2}, {10, -2}, {LOW, 0}, {FAR, 0}, {0, LOW}, {0, FAR}};
        for (int[] w : wrong) {
            Due.no("moved(" + w[0] + ", " + w[1] + ")", x.moved(w[0], w[1]));
        }
        Due.same("chain(), as before", x.chain(), 2);
        Due.yes("moved(0, NONE)", x.moved(0, -1));
        Due.same("chain()", x.chain(), 0);
        Due.yes("moved(0, NONE - 1)", x.moved(0, -2));
        Due.same("chain()", x.chain(), 1);
    }

    private static void orderIs(int n, int i, int t, int due) {
        Due.same("order(" + n + ", " + i + ", " + t + ")", fresh().order(n, i, t), due);
    }

    private static void order() {
        Due.says("its first half (odd: one more) and the rest by turns, the first half's first one first, each time: where who stands at i (from 0) is behind t (0 .. 1000) times");
        int[] even = {0, 2, 4, 1, 3, 5};
        int[] odd = {0, 2, 4, 6, 1, 3, 5};
        for (int i = 0; i < 7; i++) {
            if (i < 6) {
                orderIs(6, i, 1, even[i]);
                orderIs(6, i, 0, i);
            }
            orderIs(7, i, 1, odd[i]);
            orderIs(7, i, 0, i);
        }
        orderIs(1, 0, 0, 0);
        orderIs(1, 0, 1000, 0);
        orderIs(2, 1, 1000, 1);
        orderIs(3, 1, 1, 2);
        orderIs(3, 1, 1000, 1);
        orderIs(52, 0, 1000, 0);
        orderIs(52, 51, 1000, 51);
        orderIs(52, 26, 1, 1);
        orderIs(52, 25, 1, 50);
        orderIs(52, 1, 1000, 1);
        orderIs(52, 1, 999, 26);
        orderIs(51, 26, 1, 1);
        orderIs(51, 25, 1, 50);
        Due.says("behind how many (1 at least) all first are where they were.");
        int[][] orders = {{1, 1}, {2, 1}, {3, 2}, {4, 2}, {5, 4}, {6, 4}, {7, 3}, {8, 3}, {51, 8}, {52, 8}, {50, 21}, {38, 36}, {30, 28}};
        for (int[] o : orders) {
            orderIs(o[0], NONE, 0, o[1]);
        }
    }

    private static void orderThatCantBe() {
        Due.says("ORDER: where (i 0 .. n - 1), behind how many (i NONE; t not asked). NONE if one can't be.");
        for (int t : new int[] {-1, 1001, LOW, FAR}) {
            orderIs(8, NONE, t, 3);
            orderIs(8, 0, t, NONE);
        }
        for (int n : new int[] {0, -1, 53, LOW, FAR}) {
            orderIs(n, 0, 0, NONE);
            orderIs(n, NONE, 0, NONE);
        }
        for (int i : new int[] {-2, 8, 52, LOW, FAR}) {
            orderIs(8, i, 0, NONE);
        }
        orderIs(1, 1, 0, NONE);
        orderIs(52, 52, 0, NONE);
        orderIs(52, 51, 0, 51);
    }

    private static void windowsAre(int[] row, int couples, int most, int rising) {
        NextDoorBrides x = fresh();
        for (int v : row) {
            x.height(v);
        }
        Due.same("windows(0)", x.windows(0), couples);
        Due.same("windows(1)", x.windows(1), most);
        Due.same("windows(2)", x.windows(2), rising);
    }

    private static void windows() {
        Due.says("two see each other, if all between are less than both: how many couples do; how many one sees at most.");
        windowsAre(row(), 0, 0, 0);
        windowsAre(row(1), 0, 0, 1);
        windowsAre(row(60), 0, 0, 1);
        windowsAre(row(5, 5), 1, 1, 2);
        windowsAre(row(1, 60), 1, 1, 3);
        windowsAre(row(5, 5, 5), 2, 2, 3);
        windowsAre(row(5, 4, 5), 3, 2, 4);
        windowsAre(row(5, 6, 5), 2, 2, 4);
        windowsAre(row(5, 4, 6), 3, 2, 5);
        windowsAre(row(5, 5, 6), 2, 2, 5);
        windowsAre(row(60, 1, 1, 1, 1, 1, 1, 1, 1, 60), 10, 2, 18);
        windowsAre(row(60, 1, 2, 3, 4, 5, 6, 7, 8, 60), 17, 9, 512);
    }

    private static void rising() {
        Due.says("RISING: how many sets of them, not empty, go up as they stand, each greater than the one before.");
        windowsAre(row(1, 2, 3, 4, 5, 6, 7, 8, 9, 10), 9, 2, 1023);
        windowsAre(row(10, 9, 8, 7, 6, 5, 4, 3, 2, 1), 9, 2, 10);
        windowsAre(row(7, 7, 7, 7, 7, 7, 7, 7, 7, 7), 9, 2, 10);
        windowsAre(row(1, 1, 2, 2), 3, 2, 8);
        windowsAre(row(2, 1, 3), 3, 2, 5);
    }

    private static void heightTold() {
        Due.says("A height for WINDOWS (NONE: none is then): how many; NONE if one can't be, or there are ten.");
        NextDoorBrides x = fresh();
        Due.same("height(NONE) of none", x.height(-1), 0);
        for (int v : new int[] {0, -2, 61, LOW, FAR}) {
            Due.same("height(" + v + ")", x.height(v), NONE);
        }
        Due.same("height(1)", x.height(1), 1);
        Due.same("height(60)", x.height(60), 2);
        for (int i = 3; i <= 10; i++) {
            Due.same("height(1)", x.height(1), i);
        }
        for (int v : new int[] {1, 60, 0, 61}) {
            Due.same("height(" + v + ") at ten", x.height(v), NONE);
        }
        Due.same("windows(0)", x.windows(0), 9);
        Due.same("height(NONE)", x.height(-1), 0);
        Due.same("windows(0)", x.windows(0), 0);
        Due.same("windows(2)", x.windows(2), 0);
        Due.same("height(2)", x.height(2), 1);
        Due.says("WINDOWS what 0 how many couples, 1 the most one sees, 2 RISING. NONE for another what.");
        for (int what : new int[] {-1, 3, LOW, FAR}) {
            Due.same("windows(" + what + ")", x.windows(what), NONE);
        }
    }

    private static void gameIs(int n, int marks, int whether, int door) {
        Due.same("game(" + n + ", " + marks + ", 0)", fresh().game(n, marks, 0), whether);
        Due.same("game(" + n + ", " + marks + ", 1)", fresh().game(n, marks, 1), door);
    }

    private static void game() {
        Due.says("who makes three side by side marked wins (no door left: nobody; so of 1, 2 doors nobody can)");
        gameIs(1, 0, 0, NONE);
        gameIs(1, 1, 0, NONE);
        for (int marks = 0; marks < 4; marks++) {
            gameIs(2, marks, 0, NONE);
        }
        Due.says("1, if who is next can win, else 0; the least door that does it (NONE).");
        gameIs(3, 0, 1, 0);
        gameIs(3, 1, 0, NONE);
        gameIs(3, 2, 0, NONE);
        gameIs(3, 4, 0, NONE);
        gameIs(3, 3, 1, 2);
        gameIs(3, 5, 1, 1);
        gameIs(3, 6, 1, 0);
        gameIs(4, 0, 1, 1);
        gameIs(4, 9, 0, NONE);
        gameIs(4, 11, 1, 2);
        gameIs(5, 0, 1, 2);
        gameIs(5, 27, 1, 2);
        gameIs(6, 0, 0, NONE);
        gameIs(6, 3, 1, 2);
        gameIs(6, 48, 1, 3);
        gameIs(18, 3 << 16, 1, 15);
        gameIs(18, 5 << 15, 1, 16);
        gameIs(18, 3, 1, 2);
        gameIs(18, (1 << 18) - 1 - (1 << 2) - (1 << 5) - (1 << 8) - (1 << 11) - (1 << 14) - (1 << 17), 1, 2);
        // one mark in the row, so that two runs of doors are left
        gameIs(18, 1 << 4, 0, NONE);
        gameIs(18, 1, 1, 3);
        gameIs(18, 1 << 8, 1, 14);
        gameIs(18, 1 << 9, 1, 3);
        gameIs(18, 1 << 17, 1, 0);
        gameIs(18, 1 | 1 << 17, 0, NONE);
        // none marked, from three doors to eighteen
        int[] least = {0, 1, 2, NONE, 3, 3, 0, 1, 2, NONE, 6, 6, 0, 1, 2, 4};
        for (int n = 3; n <= 18; n++) {
            gameIs(n, 0, least[n - 3] == NONE ? 0 : 1, least[n - 3]);
        }
    }

    private static void gameThatCantBe() {
        Due.says("GAME on n doors with marks what 0 whether, 1 the least door. NONE if one can't be (three side by side are marked), or another what.");
        int[][] wrong = {{0, 0}, {-1, 0}, {19, 0}, {LOW, 0}, {FAR, 0}, {3, 7}, {4, 14}, {4, 7}, {4, 15}, {18, 7 << 15}, {18, 7}, {18, (1 << 18) - 1},
            {5, -1}, {5, LOW}, {5, FAR}, {5, 32}, {1, 2}, {2, 4}, {3, 8}, {18, 1 << 18}, {18, 1 << 30}, {32, 0}, {31, 0}, {33, 1}};
        for (int[] w : wrong) {
            gameIs(w[0], w[1], NONE, NONE);
        }
        for (int what : new int[] {-1, 2, LOW, FAR}) {
            Due.same("game(3, 0, " + what + ")", fresh().game(3, 0, what), NONE);
            Due.same("game(1, 0, " + what + ")", fresh().game(1, 0, what), NONE);
        }
    }
}

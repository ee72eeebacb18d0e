/** Promises 7 to 10: the tape, and what it is read as. */
public final class TextTest {
    private TextTest() {
    }

    public static void main(String[] args) {
        tape();
        tokens();
        fullOfTokens();
        orBehindAnd();
        lawFaults();
        openOnes();
        planFaults();
        feudFaults();
        sideFaults();
        seventeenLines();
        aFaultChangesNothing();
        noSuchText();
        Due.finish();
    }

    private static void tape() {
        NextDoorBrides x = Given.houses(1, 1, 1, 10);
        for (int i = 1; i <= 20; i++) {
            Due.same("feed", x.feed(0x20202020, 0x20202020, 0x20202020, 0x20202020, 0x20202020), 20 * i);
        }
        Due.same("feed beyond 400", x.feed(0, 0, 0, 0, 0), -1);
        Due.no("end(401)", x.end(401));
        Due.no("end(-1)", x.end(-1));
        Due.no("end(least)", x.end(Integer.MIN_VALUE));
        Due.no("end(most)", x.end(Integer.MAX_VALUE));
        Due.yes("end(400)", x.end(400));
        Due.yes("end(381)", x.end(381));
        Due.same("feed beyond 400", x.feed(0, 0, 0, 0, 0), -1);
        Due.no("end(382)", x.end(382));
        Due.yes("end(380)", x.end(380));
        Due.same("feed up to 400", x.feed(0x676f6573, 0x20373b20, 0x20202020, 0x0a0a0a0a, 0x20202020), 400);
        Due.same("text(0)", x.text(0), 1);
        Due.same("of(0, 8)", x.of(0, 8), 7);
        Due.no("end(1), empty then", x.end(1));
        Due.yes("end(0)", x.end(0));
        // of each number the highest byte first, and none has a sign
        Due.same("feed", x.feed(0x3b676f65, 0x73203b00, 0xffffffff, 0, 0), 20);
        Due.same("text(0)", x.text(0), -1);
        Due.same("fault(1)", x.fault(1), 0);
        Due.no("end(1), empty behind a fault too", x.end(1));
        x.feed(0x676f6573, 0x2039ff20, 0x3b3b3b3b, 0, 0);
        Due.same("text(0)", x.text(0), -1);
        Due.same("fault(0)", x.fault(0), 1);
        Due.same("fault(1)", x.fault(1), 6);
    }

    /** The tape holds as many tokens as it has bytes, and none of a text is left for the next one. */
    private static void fullOfTokens() {
        NextDoorBrides x = Given.houses(1, 1, 1, 10);
        Due.fault(x, 0, "(".repeat(400), 1, 0);
        Due.fault(x, 0, "goes1" + "+1".repeat(197) + "+", 1, 400);
        Due.fault(x, 0, "goes 1" + "+1".repeat(197), 1, 400);
        Due.fault(x, 0, "goes1" + "+1".repeat(197) + "=", 1, 399);
        Due.lines(x, 0, "goes1" + "+1".repeat(197) + ";", 1);
        Due.same("of(0, 8)", x.of(0, 8), 198);
        Due.fault(x, 0, "goes", 1, 4);
        Due.lines(x, 0, "goes 3;", 1);
        Due.same("of(0, 8)", x.of(0, 8), 3);
        Due.lines(x, 0, "", 0);
    }

    /** All conditions of three parts, joined each way: and joins first, or what it has joined. */
    private static void orBehindAnd() {
        NextDoorBrides x = Given.houses(1, 1, 1, 10);
        for (int so = 0; so < 8; so++) {
            boolean a = (so & 1) == 0;
            boolean b = (so & 2) == 0;
            boolean c = (so & 4) == 0;
            String p = "1=" + (a ? 1 : 0);
            String q = "1=" + (b ? 1 : 0);
            String r = "1=" + (c ? 1 : 0);
            isSo(x, p + " or " + q + " and " + r, a || b && c);
            isSo(x, p + " and " + q + " or " + r, a && b || c);
            isSo(x, "(" + p + " or " + q + ") and " + r, (a || b) && c);
            isSo(x, p + " and (" + q + " or " + r + ")", a && (b || c));
            isSo(x, "not " + p + " and " + q + " or not " + r, !a && b || !c);
            isSo(x, "not (" + p + " or " + q + ") or not " + r + " and " + p, !(a || b) || !c && a);
            isSo(x, p + " or " + q + " and " + r + " or " + q + " and " + p, a || b && c || b && a);
        }
    }

    private static void isSo(NextDoorBrides x, String condition, boolean so) {
        Due.lines(x, 0, "goes 7 when " + condition + ";", 1);
        Due.same(condition, x.of(0, 8), so ? 7 : 800);
    }

    private static void tokens() {
        NextDoorBrides x = Given.houses(2, 1, 1, 10);
        Due.lines(x, 0, "", 0);
        Due.lines(x, 0, " \n ", 0);
        Due.lines(x, 0, "goes1;bears2;", 2);
        Due.lines(x, 0, "goes\n1when girls=1and boys=1;", 1);
        Due.lines(x, 0, "goes 0001;", 1);
        Due.same("of(0, 8)", x.of(0, 8), 1);
        Due.fault(x, 0, "goes 00001;", 1, 5);
        Due.fault(x, 0, "goes 12345678901234567890;", 1, 5);
        Due.fault(x, 0, "Goes 1;", 1, 0);
        Due.fault(x, 0, "goesx 1;", 1, 0);
        Due.fault(x, 0, "goesA 1;", 1, 0);
        Due.fault(x, 0, "goesZ 1;", 1, 0);
        Due.fault(x, 0, "goesa 1;", 1, 0);
        Due.fault(x, 0, "goesz 1;", 1, 0);
        Due.fault(x, 0, "goes@ 1;", 1, 4);
        Due.fault(x, 0, "goes[ 1;", 1, 4);
        Due.fault(x, 0, "goes` 1;", 1, 4);
        Due.fault(x, 0, "goes{ 1;", 1, 4);
        Due.fault(x, 0, "goe 1;", 1, 0);
        Due.fault(x, 0, " xgoes 1;", 1, 1);
        Due.fault(x, 0, "goes 1\t;", 1, 6);
        Due.fault(x, 0, "goes 1\r;", 1, 6);
        Due.fault(x, 0, "goes 1,;", 1, 6);
        Due.fault(x, 0, "goes 1 1;", 1, 7);
        Due.fault(x, 0, "goes 1", 1, 6);
        Due.fault(x, 0, "goes 1  ", 1, 8);
        Due.fault(x, 0, "goes", 1, 4);
        Due.fault(x, 0, "goes 1;;", 1, 7);
        Due.fault(x, 0, "house 1;", 1, 0);
        Due.fault(x, 1, "goes 1;", 1, 0);
    }

    private static void lawFaults() {
        NextDoorBrides x = Given.houses(1, 1, 1, 10);
        Due.fault(x, 0, "goes ;", 1, 5);
        Due.fault(x, 0, "goes when 1 = 1;", 1, 5);
        Due.fault(x, 0, "goes -1;", 1, 5);
        Due.fault(x, 0, "goes (1);", 1, 5);
        Due.fault(x, 0, "goes 1 + ;", 1, 9);
        Due.fault(x, 0, "goes 1 * * 2;", 1, 9);
        Due.fault(x, 0, "goes 1 / girls;", 1, 9);
        Due.fault(x, 0, "goes 1 / 0;", 2, 9);
        Due.fault(x, 0, "goes 1 / 0000;", 2, 9);
        Due.fault(x, 0, "goes 1 / 00000;", 1, 9);
        Due.fault(x, 0, "goes 1 / 0 ! ;", 2, 9);
        Due.lines(x, 0, "goes 1 * 0 / 1;", 1);
        Due.fault(x, 0, "goes 1 when;", 1, 11);
        Due.fault(x, 0, "goes 1 when 1;", 1, 13);
        Due.fault(x, 0, "goes 1 when 1 =;", 1, 15);
        Due.fault(x, 0, "goes 1 when 1 = 1 = 1;", 1, 18);
        Due.fault(x, 0, "goes 1 when 1 = 1 or;", 1, 20);
        Due.fault(x, 0, "goes 1 when 1 = 1 and;", 1, 21);
        Due.fault(x, 0, "goes 1 when not;", 1, 15);
        Due.fault(x, 0, "goes 1 when (1 = 1;", 1, 18);
        Due.fault(x, 0, "goes 1 when 1 = 1);", 1, 17);
        Due.fault(x, 0, "goes 1 when (1) = 1;", 1, 14);
        Due.fault(x, 0, "goes 1 when ();", 1, 13);
        Due.fault(x, 0, "goes 1 when 1 = (1);", 1, 16);
        Due.fault(x, 0, "goes 1 when 1 = 1 when 1 = 1;", 1, 18);
        Due.fault(x, 0, "goes 1 when 1 = 1 / 0;", 2, 20);
        Due.fault(x, 0, "goes goes;", 1, 5);
        Due.fault(x, 0, "when 1 = 1;", 1, 0);
        Due.fault(x, 0, "goes 1; girls 1;", 1, 8);
        Due.same("fault(2)", x.fault(2), -1);
        Due.same("fault(-1)", x.fault(-1), -1);
        Due.same("fault(most)", x.fault(Integer.MAX_VALUE), -1);
    }

    private static void openOnes() {
        NextDoorBrides x = Given.houses(1, 1, 1, 10);
        Due.lines(x, 0, "goes 1 when ((((((((1=1))))))));", 1);
        Due.fault(x, 0, "goes 1 when (((((((((1=1)))))))));", 3, 20);
        Due.lines(x, 0, "goes 1 when not not not not not not not not 1=1;", 1);
        Due.same("eight nots", x.of(0, 8), 1);
        Due.lines(x, 0, "goes 1 when not not not not not not not 1=1; goes 2;", 2);
        Due.same("seven nots", x.of(0, 8), 2);
        Due.fault(x, 0, "goes 1 when not not not not (((( not 1=1))));", 3, 33);
        Due.fault(x, 0, "goes 1 when not(not(not(not((1=1))))) and not(not(not(not(( 1=1)))));", 3, 28);
        Due.lines(x, 0, "goes 1 when not(not(not(not(1=1)))) and not(not(not(not(1=1))));", 1);
        Due.lines(x, 0, "goes 1 when not 1=1 and not 1=1 or not 1=1 and not 1=1 and (1=1) or (1=1) or (1=1) or not 1=2 or (1=1);", 1);
        Due.fault(x, 0, "goes 1 when ((((((((x", 1, 20);
    }

    private static void planFaults() {
        NextDoorBrides x = Given.houses(2, 1, 1, 10);
        Due.lines(x, 1, "in 0 girl 0; in 999 boy 1; in 5 widow 1; in 5 comfort 1; in 5 give 0 1; in 5 give 1 999; in 5 jug 1;", 7);
        Due.same("look(10)", x.look(10), 7);
        Due.fault(x, 1, "in 1000 girl 0;", 2, 3);
        Due.fault(x, 1, "in 10000 girl 0;", 1, 3);
        Due.fault(x, 1, "in girl 0;", 1, 3);
        Due.fault(x, 1, "in 1 in 0;", 1, 5);
        Due.fault(x, 1, "in 1 2;", 1, 5);
        Due.fault(x, 1, "in 1 girl;", 1, 9);
        Due.fault(x, 1, "in 1 girl 2;", 2, 10);
        Due.fault(x, 1, "in 1 jug 9999;", 2, 9);
        Due.fault(x, 1, "in 1 girl 1 1;", 1, 12);
        Due.fault(x, 1, "in 1 give 1;", 1, 11);
        Due.fault(x, 1, "in 1 give 1 0;", 2, 12);
        Due.fault(x, 1, "in 1 give 1 1000;", 2, 12);
        Due.fault(x, 1, "in 1 give 2 1000;", 2, 10);
        Due.fault(x, 1, "in 1 girl 1", 1, 11);
        Due.fault(x, 1, "in 1 girl 1; in", 1, 15);
        Due.fault(Given.houses(0, 1, 1, 10), 1, "in 1 girl 0;", 2, 10);
    }

    private static void feudFaults() {
        NextDoorBrides x = Given.houses(3, 1, 1, 10);
        Due.lines(x, 2, "house 0 feud 1;house 1 feud 0;house 0 feud 1;house 0 feud 2;", 4);
        Due.same("look(11)", x.look(11), 4);
        Due.same("of(0, 11)", x.of(0, 11), 6);
        Due.same("of(1, 11)", x.of(1, 11), 1);
        Due.fault(x, 2, "house 3 feud 1;", 2, 6);
        Due.fault(x, 2, "house 1 feud 3;", 2, 13);
        Due.fault(x, 2, "house 1 feud 1;", 2, 13);
        Due.fault(x, 2, "house 1 feud 01;", 2, 13);
        Due.fault(x, 2, "house 1 side 1;", 1, 8);
        Due.fault(x, 2, "house 1 house 2;", 1, 8);
        Due.fault(x, 2, "house feud 1;", 1, 6);
        Due.fault(x, 2, "feud 1;", 1, 0);
        Due.fault(x, 2, "house 1 feud ;", 1, 13);
        Due.fault(x, 2, "house 1 feud 2 2;", 1, 15);
        Due.lines(x, 2, "house 2 feud 1;", 1);
        Due.same("of(0, 11)", x.of(0, 11), 0);
    }

    private static void sideFaults() {
        NextDoorBrides x = Given.houses(3, 1, 1, 10);
        Due.lines(x, 3, "house 0 side 1;house 2 side 1;house 0 side 0;", 3);
        Due.same("look(12)", x.look(12), 3);
        Due.fault(x, 3, "house 0 side 2;", 2, 13);
        Due.fault(x, 3, "house 3 side 0;", 2, 6);
        Due.fault(x, 3, "house 3 side 2;", 2, 6);
        Due.fault(x, 3, "house 0 feud 1;", 1, 8);
        Due.fault(x, 3, "house 0 side;", 1, 12);
        Due.fault(x, 3, "house 0 side 1 house 0 side 1;", 1, 15);
        Due.same("of(2, 6)", x.of(2, 6), 1);
        Due.same("of(0, 6)", x.of(0, 6), 0);
    }

    private static String times(String line, int n) {
        return line.repeat(n);
    }

    private static void seventeenLines() {
        NextDoorBrides x = Given.houses(3, 1, 1, 10);
        String[] lines = {"goes 1;", "in 1 girl 1;", "house 1 feud 2;", "house 1 side 1;"};
        String[] first = {"brings", "in", "house", "house"};
        for (int k = 0; k < 4; k++) {
            String sixteen = times(lines[k], 16);
            Due.lines(x, k, sixteen + "\n", 16);
            Due.same("look(" + (9 + k) + ")", x.look(9 + k), 16);
            Due.fault(x, k, sixteen + lines[k], 3, sixteen.length());
            Due.fault(x, k, sixteen + " " + first[k], 3, sixteen.length() + 1);
            Due.fault(x, k, sixteen + " when", 1, sixteen.length() + 1);
            Due.fault(x, k, sixteen + ";", 1, sixteen.length());
        }
    }

    private static void aFaultChangesNothing() {
        NextDoorBrides x = Given.houses(2, 1, 1, 10);
        Due.lines(x, 0, "goes 5;", 1);
        Due.fault(x, 0, "goes 6; goes", 1, 12);
        Due.same("of(0, 8)", x.of(0, 8), 5);
        Due.same("look(9)", x.look(9), 1);
        Due.lines(x, 2, "house 0 feud 1;", 1);
        Due.fault(x, 2, "house 1 feud 0; house", 1, 21);
        Due.same("of(0, 11)", x.of(0, 11), 2);
        Due.same("of(1, 11)", x.of(1, 11), 0);
        Due.lines(x, 3, "house 0 side 1;", 1);
        Due.fault(x, 3, "house 1 side 1; 1", 1, 16);
        Due.same("of(1, 6)", x.of(1, 6), 0);
        Due.lines(x, 1, "in 0 give 1 5;", 1);
        Due.fault(x, 1, "in 0 give 1 7; in 0 give 2 7;", 2, 25);
        x.act(1, 0);
        Due.fault(x, 1, "x", 1, 0);
        Due.same("look(13) behind a fault", x.look(13), 1);
        Due.tell(x, 0, "goes 0;");
        Due.same("look(13) behind a law", x.look(13), 1);
        x.years(1);
        Due.same("of(1, 2)", x.of(1, 2), 15);
        Due.lines(x, 1, "", 0);
        Due.same("look(10)", x.look(10), 0);
        Due.same("look(13) behind plans", x.look(13), 0);
    }

    private static void noSuchText() {
        NextDoorBrides x = Given.houses(1, 1, 1, 10);
        for (int k : new int[] {-1, 4, Integer.MAX_VALUE, Integer.MIN_VALUE}) {
            Due.fault(x, 0, "x", 1, 0);
            Due.feed(x, "goes 5;");
            Due.same("text(" + k + ")", x.text(k), -1);
            Due.same("fault(0)", x.fault(0), 0);
            Due.same("fault(1)", x.fault(1), -1);
            Due.no("end(1), empty then", x.end(1));
        }
        Due.same("of(0, 8)", x.of(0, 8), 800);
    }
}

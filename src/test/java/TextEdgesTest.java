/** Boundary cases of "Terms" 2 and of the promises 7 to 10, sentence by sentence. */
public final class TextEdgesTest {
    private static final int FAR = Given.FAR;
    private static final int LOW = Given.LOW;
    private static final int BLANKS = 0x20202020;
    private static final String[] LINES = {"goes 1;", "in 1 girl 1;", "house 1 feud 2;", "house 1 side 1;"};

    private TextEdgesTest() {
    }

    public static void main(String[] args) {
        emptyAtFirst();
        noLinesAtAll();
        whenMayBeLeftOut();
        planBounds();
        feudsOneWay();
        theLastSideCounts();
        sixteenLines();
        lettersAsManyAsStandTogether();
        keywordsOfThatText();
        numbersOfFourDigits();
        everyByte();
        blanksBetween();
        intsWrap();
        partsGoTowardsZero();
        theFirstFault();
        theLeastAtOnePlace();
        whatCantStandThere();
        atTheEnd();
        aPartByZero();
        beyondBounds();
        noSuchHouse();
        theSameHouseAgain();
        theSeventeenthLine();
        theNinthOpen();
        theFirstLineThatIsSo();
        asLongAsTheTape();
        asDeepAsCanBe();
        withoutALine();
        answersAreHeld();
        whatTheLawSpeaksOf();
        feedHighestFirst();
        feedAtFourHundred();
        endOfTheTape();
        tapeEmptyThen();
        noSuchText();
        staysAsItWas();
        faultOfTheLatest();
        Due.finish();
    }

    private static void emptyAtFirst() {
        Due.says("TEXTS (empty at first).");
        NextDoorBrides x = Given.houses(3, 1, 1, 10);
        for (int k = 0; k <= 3; k++) {
            Due.same("look(" + (9 + k) + ")", x.look(9 + k), 0);
        }
        Given.houseIs(x, 1, 1, 1, 10, 0, 0, 1, 0, 2, 800, 2, 5, 0);
    }

    private static void noLinesAtAll() {
        Due.says("0 THE LAW = {(goes | bears | brings) E [when B] ;}.");
        for (int k = 0; k <= 3; k++) {
            NextDoorBrides x = Given.houses(3, 1, 1, 10);
            Due.lines(x, k, LINES[k], 1);
            Due.lines(x, k, "", 0);
            Due.same("look(" + (9 + k) + ")", x.look(9 + k), 0);
            Due.lines(x, k, LINES[k], 1);
            Due.lines(x, k, " \n\n ", 0);
            Due.same("look(" + (9 + k) + ")", x.look(9 + k), 0);
            Given.houseIs(x, 1, 1, 1, 10, 0, 0, 1, 0, 2, 800, 2, 5, 0);
        }
    }

    private static void whenMayBeLeftOut() {
        Due.says("E [when B] ;");
        NextDoorBrides x = Given.houses(1, 1, 1, 10);
        Due.lines(x, 0, "goes 1;bears 2;brings 3;", 3);
        Given.houseIs(x, 0, 1, 1, 10, 0, 0, 0, 0, -1, 1, 2, 3);
        Due.lines(x, 0, "goes 1 when 1=1;bears 2 when 1<2;brings 3 when 2>1;", 3);
        Given.houseIs(x, 0, 1, 1, 10, 0, 0, 0, 0, -1, 1, 2, 3);
        Due.lines(x, 0, "goes 1 when 1<1;bears 1 when 2<1;brings 3 when 1>1;goes 2 when 1>2;goes 3 when 1=2;", 5);
        Given.houseIs(x, 0, 1, 1, 10, 0, 0, 0, 0, -1, 800, 2, 5);
    }

    private static void planBounds() {
        Due.says("(GENERATION 0 .. 999; give 1 .. 999.)");
        NextDoorBrides x = Given.houses(1, 0, 0, 0);
        Due.lines(x, 1, "in 0 give 0 1; in 999 give 0 999; in 0999 give 0 0999;", 3);
        Due.fault(x, 1, "in 1000 give 0 1;", 2, 3);
        Due.fault(x, 1, "in 9999 give 0 1;", 2, 3);
        Due.fault(x, 1, "in 0 give 0 0;", 2, 12);
        Due.fault(x, 1, "in 0 give 0 0000;", 2, 12);
        Due.fault(x, 1, "in 0 give 0 1000;", 2, 12);
        Due.same("look(10)", x.look(10), 3);
        Given.pass(x, 999);
        Due.same("of(0, 2) behind generations 0 to 998", x.of(0, 2), 1);
        x.years(1);
        Due.same("of(0, 2) behind generation 999", x.of(0, 2), 1999);
        x.years(60);
        Due.same("of(0, 2) behind more", x.of(0, 2), 1999);
    }

    private static void feudsOneWay() {
        Due.says("(one way: the first with the second; unlike.)");
        NextDoorBrides x = Given.houses(2, 0, 0, 0);
        Due.lines(x, 2, "house 0 feud 1;", 1);
        Due.same("of(0, 11)", x.of(0, 11), 2);
        Due.same("of(1, 11)", x.of(1, 11), 0);
        Due.lines(x, 2, "house 1 feud 0;", 1);
        Due.same("of(0, 11)", x.of(0, 11), 0);
        Due.same("of(1, 11)", x.of(1, 11), 1);
        Due.fault(x, 2, "house 1 feud 1;", 2, 13);
        Due.fault(x, 2, "house 0 feud 0;", 2, 13);
    }

    private static void theLastSideCounts() {
        Due.says("(0, 1; of several for one the last; all others 0.)");
        NextDoorBrides x = Given.houses(16, 0, 0, 0);
        Due.lines(x, 3, "house 0 side 1; house 15 side 1; house 0 side 0; house 7 side 0; house 7 side 1; house 15 side 1;", 6);
        for (int who = 0; who < 16; who++) {
            Due.same("of(" + who + ", 6)", x.of(who, 6), who == 7 || who == 15 ? 1 : 0);
        }
        Due.lines(x, 3, "house 3 side 1;", 1);
        for (int who = 0; who < 16; who++) {
            Due.same("of(" + who + ", 6)", x.of(who, 6), who == 3 ? 1 : 0);
        }
        Due.fault(x, 3, "house 3 side 2;", 2, 13);
    }

    private static void sixteenLines() {
        Due.says("16 lines of each at most.");
        for (int k = 0; k <= 3; k++) {
            NextDoorBrides x = Given.houses(3, 1, 1, 10);
            for (int n : new int[] {1, 15, 16}) {
                Due.lines(x, k, LINES[k].repeat(n), n);
                Due.same("look(" + (9 + k) + ")", x.look(9 + k), n);
            }
            Due.same("text(" + k + ") of 17", Due.tell(x, k, LINES[k].repeat(17)), -1);
            Due.same("look(" + (9 + k) + ")", x.look(9 + k), 16);
        }
        // the sixteenth line counts as the first does
        NextDoorBrides y = Given.houses(2, 0, 0, 0);
        Due.lines(y, 0, "goes 1 when 1=2;".repeat(15) + "goes 7;", 16);
        Due.same("of(0, 8)", y.of(0, 8), 7);
        Due.lines(y, 1, "in 0 girl 0;".repeat(15) + "in 0 give 1 7;", 16);
        y.years(1);
        Due.same("of(1, 2)", y.of(1, 2), 7);
        Due.lines(y, 2, "house 0 feud 1;".repeat(15) + "house 1 feud 0;", 16);
        Due.same("of(1, 11)", y.of(1, 11), 1);
        Due.lines(y, 3, "house 1 side 1;".repeat(15) + "house 1 side 0;", 16);
        Due.same("of(1, 6)", y.of(1, 6), 0);
    }

    private static void lettersAsManyAsStandTogether() {
        Due.says("letters (a .. z, A .. Z) as many as stand together are KEYWORDS (those told here for that text) or none");
        NextDoorBrides x = Given.houses(1, 1, 1, 10);
        for (char more : "azAZ".toCharArray()) {
            Due.fault(x, 0, "goes" + more + " 1;", 1, 0);
            Due.fault(x, 0, more + "goes 1;", 1, 0);
            Due.fault(x, 0, "goes girls" + more + ";", 1, 5);
        }
        Due.fault(x, 0, "goe 1;", 1, 0);
        Due.fault(x, 0, "g 1;", 1, 0);
        Due.fault(x, 0, "GOES 1;", 1, 0);
        Due.fault(x, 0, "goesgirls;", 1, 0);
        Due.fault(x, 0, "goes 1 whengirls=1;", 1, 7);
        Due.lines(x, 0, "goes1when1=1and1=1;", 1);
        Due.lines(x, 0, "goes girls;bears boys;", 2);
    }

    private static void keywordsOfThatText() {
        Due.says("KEYWORDS (those told here for that text)");
        NextDoorBrides x = Given.houses(2, 1, 1, 10);
        for (String word : new String[] {"in", "girl", "boy", "comfort", "give", "house", "feud"}) {
            Due.fault(x, 0, "goes " + word + ";", 1, 5);
        }
        for (String word : new String[] {"girls", "boys", "goes", "dowry", "house", "feud", "side", "in"}) {
            Due.fault(x, 1, "in 1 " + word + " 1;", 1, 5);
        }
        for (String word : new String[] {"side", "in", "goes", "and", "house"}) {
            Due.fault(x, 2, "house 0 " + word + " 1;", 1, 8);
        }
        for (String word : new String[] {"feud", "in", "goes", "and", "house"}) {
            Due.fault(x, 3, "house 0 " + word + " 1;", 1, 8);
        }
        Due.lines(x, 0, "goes widow + jug + side;", 1);
        Due.lines(x, 1, "in 1 widow 1; in 1 jug 1;", 2);
    }

    private static void numbersOfFourDigits() {
        Due.says("digits as many as stand together NUMBERS of 1 to 4 digits or none");
        NextDoorBrides x = Given.houses(1, 1, 1, 10);
        String[] right = {"0", "9", "00", "99", "000", "0007", "9999"};
        int[] due = {0, 9, 0, 99, 0, 7, 1000};
        for (int i = 0; i < right.length; i++) {
            Due.lines(x, 0, "goes " + right[i] + ";", 1);
            Due.same("of(0, 8)", x.of(0, 8), due[i]);
        }
        for (String wrong : new String[] {"00000", "10000", "99999", "000000", "4294967297", "0".repeat(300)}) {
            Due.fault(x, 0, "goes " + wrong + ";", 1, 5);
        }
        // the number of ; itself is none
        Due.fault(x, 0, "goes 1 00059", 1, 7);
        Due.fault(x, 0, "goes 1 59", 1, 7);
        Due.fault(x, 1, "in 00001 girl 0;", 1, 3);
        Due.fault(x, 2, "house 00000 feud 1;", 1, 6);
        Due.fault(x, 3, "house 0 side 00001;", 1, 13);
        Due.same("of(0, 8), as before", x.of(0, 8), 1000);
    }

    /** What stands behind "goes 1": every byte that there is, and a ; behind it. */
    private static void everyByte() {
        Due.says("; + - * / ( ) < = > . Blanks (32, 10) between.");
        NextDoorBrides x = null;
        for (int sign = 0; sign < 256; sign++) {
            // a new one each time: an object is used for 512 calls
            x = Given.houses(1, 1, 1, 10);
            String text = "goes 1" + (char) sign + ";";
            if (sign == 32 || sign == 10 || sign >= '0' && sign <= '9') {
                Due.lines(x, 0, text, 1);
            } else if ("+-*/;".indexOf(sign) >= 0) {
                Due.fault(x, 0, text, 1, 7);
            } else {
                Due.fault(x, 0, text, 1, 6);
            }
        }
    }

    private static void blanksBetween() {
        Due.says("Blanks (32, 10) between.");
        NextDoorBrides x = Given.houses(2, 1, 1, 10);
        Due.lines(x, 0, "\n goes \n\n 1 +\n2 * girls\nwhen not\n( 1 = 1\nor 2 < 1 ) ; \n", 1);
        Due.lines(x, 2, "\nhouse\n0\nfeud\n1\n;\n", 1);
        Due.fault(x, 0, "go es 1;", 1, 0);
        Due.fault(x, 0, "goes 1 2;", 1, 7);
        Due.fault(x, 0, "goes\n1\n2;", 1, 7);
        for (int other : new int[] {0, 9, 11, 12, 13, 31, 160}) {
            Due.fault(x, 0, (char) other + "goes 1;", 1, 0);
        }
    }

    private static int law(String value) {
        NextDoorBrides x = Given.houses(1, 1, 1, 10);
        Due.lines(x, 0, "goes " + value + ";goes 9;", 2);
        return x.of(0, 8);
    }

    private static void intsWrap() {
        Due.says("Ints, which wrap");
        // 9999 * 9999 * 21 is 2099580021, and once more 99980001 is too much
        Due.same("times", law("1 when 9999*9999*22<0"), 1);
        Due.same("times, as far as it goes", law("1 when 9999*9999*21>0"), 1);
        Due.same("plus", law("1 when 9999*9999*21+9999*9999<0"), 1);
        Due.same("plus is times", law("1 when 9999*9999*21+9999*9999=9999*9999*22"), 1);
        Due.same("minus", law("1 when 0-9999*9999*21-9999*9999>0"), 1);
        Due.same("times over and over", law("1 when 256*256*256*256=0"), 1);
        Due.same("the least less one", law("1 when 0-1024*1024*2048-1=1024*1024*2047+1024*1024-1"), 1);
    }

    private static void partsGoTowardsZero() {
        Due.says("/ goes towards 0.");
        Due.same("7 / 1", law("7/1"), 7);
        Due.same("7 / 2", law("7/2"), 3);
        Due.same("1 / 2", law("1/2"), 0);
        Due.same("9999 / 9999", law("9999/9999"), 1);
        // 9999 * 9999 * 22 is -2095407274
        Due.same("below 0", law("9999*9999*22/1000+2095*1000+407"), 0);
        Due.same("below 0", law("9999*9999*22/1000+2095*1000+408"), 1);
        Due.same("above all", law("1 when 9999*9999*22/9999+9999*20+9581=0"), 1);
        Due.same("the least", law("1 when 1024*1024*2048/9999=0-2147*100-69"), 1);
        Due.same("from the left", law("7/2*2"), 6);
        Due.same("from the left", law("100/3/3"), 11);
    }

    private static void theFirstFault() {
        Due.says("FAULTS, the first by its place");
        NextDoorBrides x = Given.houses(2, 1, 1, 10);
        Due.fault(x, 0, "goes 1/0 !;", 2, 7);
        Due.fault(x, 0, "goes 1 !/0;", 1, 7);
        Due.fault(x, 0, "goes 1 when (((((((((1=1/0", 3, 20);
        Due.fault(x, 0, "goes 1/0 when (((((((((1=1", 2, 7);
        Due.fault(x, 1, "in 1000 sing 9;", 2, 3);
        Due.fault(x, 1, "in 1 sing 9;", 1, 5);
        Due.fault(x, 2, "house 2 feud 2;", 2, 6);
        Due.fault(x, 2, "house 2 side", 2, 6);
        Due.fault(x, 3, "house 2 side 2;", 2, 6);
        Due.fault(x, 3, "house 1 side 2", 2, 13);
        Due.fault(x, 0, "goes 1/0;" + "goes 1;".repeat(17), 2, 7);
        Due.fault(x, 0, "goes 1;".repeat(16) + "goes 1/0;", 3, 112);
    }

    private static void theLeastAtOnePlace() {
        Due.says("at one place the least");
        NextDoorBrides x = Given.houses(2, 1, 1, 10);
        // neither the 17th line nor what can stand there
        Due.fault(x, 0, "goes 1;".repeat(16) + "when", 1, 112);
        Due.fault(x, 1, "in 1 girl 1;".repeat(16) + "girl", 1, 192);
        // too long for a NUMBER, and beyond all bounds
        Due.fault(x, 1, "in 10000 girl 1;", 1, 3);
        Due.fault(x, 2, "house 0 feud 00000;", 1, 13);
        Due.fault(x, 0, "goes 1/00000;", 1, 7);
        // with eight open, where none can stand
        Due.fault(x, 0, "goes 1 when ((((((((1 ( =1", 1, 22);
        Due.fault(x, 0, "goes 1 when ((((((((1 not", 1, 22);
        Due.fault(x, 0, "goes 1 when ((((((((1=(", 1, 22);
    }

    private static void whatCantStandThere() {
        Due.says("1 what can't stand there");
        NextDoorBrides x = Given.houses(2, 1, 1, 10);
        String[] law = {"@;", "@when 1=1;", "@1;", "goes @;", "goes @-1;", "goes @(1);", "goes 1 @1;", "goes 1+@;", "goes 1*@/2;",
            "goes 1/@girls;", "goes 1/@;", "goes girls @boys;", "goes 1 when @;", "goes 1 when 1 @;", "goes 1 when 1+1 @and 1=1;",
            "goes 1 when 1<@;", "goes 1 when 1<@=1;", "goes 1 when 1=1 @=1;", "goes 1 when 1=1 or @;", "goes 1 when 1=1 and @or 1=1;",
            "goes 1 when not @;", "goes 1 when not not @and;", "goes 1 when (@);", "goes 1 when (1=1@;", "goes 1 when 1=1@);",
            "goes 1 when (1@)=1;", "goes 1 when 1=@(1);", "goes 1 when 1=1 @when 1=1;", "goes 1 when 1=1 @not 1=1;", "goes @goes;",
            "goes 1;@;", "goes 1;@1;", "goes @when;", "goes 1 @and 1=1;", "goes 1 @=1;", "goes @not;", "goes 1+@not 1=1;", "goes 1 when 1=@not 1=1;",
            "goes 1 when 1*@or 1=1;", "goes @or;", "goes @and;", "goes @bears 1;"};
        for (String text : law) {
            faultAtMark(x, 0, text);
            x = Given.houses(2, 1, 1, 10);
        }
        String[] plans = {"@1;", "@girl 1;", "in @girl 1;", "in @;", "in 1 @1;", "in 1 @in 1;", "in 1 @;", "in 1 girl @;", "in 1 girl @boy;",
            "in 1 girl 1 @1;", "in 1 give 1 @;", "in 1 give @;", "in 1 give 1 1 @1;", "in 1 jug 1 @girl 1;", "in 1 girl 1;@;", "in 1 girl @-1;"};
        for (String text : plans) {
            faultAtMark(x, 1, text);
        }
        for (String word : new String[] {"feud", "side"}) {
            String[] both = {"@1;", "@" + word + " 1;", "house @house;", "house @;", "house 1 @1;", "house 1 @;", "house 1 @house 0;",
                "house 1 " + word + " @;", "house 1 " + word + " @house;", "house 1 " + word + " 0 @1;", "house 1 " + word + " 0;@;"};
            for (String text : both) {
                faultAtMark(x, word.equals("feud") ? 2 : 3, text);
            }
        }
    }

    /** A text that has its fault 1 at the mark, which is no part of it. */
    private static void faultAtMark(NextDoorBrides x, int k, String text) {
        Due.fault(x, k, text.replace("@", ""), 1, text.indexOf('@'));
    }

    private static void atTheEnd() {
        Due.says("(the end: the text's length)");
        String[] whole = {"goes 1 + 2 / 3 when not ( 1 = 1 and 2 < girls ) ;", "in 1 give 1 1 ;", "house 1 feud 0 ;", "house 1 side 0 ;"};
        for (int k = 0; k <= 3; k++) {
            NextDoorBrides x = Given.houses(2, 1, 1, 10);
            Due.lines(x, k, whole[k], 1);
            for (int length = 1; length < whole[k].length(); length++) {
                // only what ends with a whole token
                if (whole[k].charAt(length) == ' ') {
                    Due.fault(x, k, whole[k].substring(0, length), 1, length);
                    Due.fault(x, k, whole[k].substring(0, length) + " \n ", 1, length + 3);
                }
            }
        }
        NextDoorBrides y = Given.houses(2, 1, 1, 10);
        Due.fault(y, 0, "goes 1" + " ".repeat(394), 1, 400);
        Due.fault(y, 0, " ".repeat(396) + "goes", 1, 400);
        Due.fault(y, 0, " ".repeat(397) + "goe", 1, 397);
        Due.fault(y, 0, "goes" + " ".repeat(395) + "1", 1, 400);
        Due.fault(y, 0, " ".repeat(399) + ";", 1, 399);
        Due.lines(y, 0, "goes 1" + " ".repeat(393) + ";", 1);
        // what stood behind it on the tape has no part in it
        cutOff(y, 0, "goes 12345;", 6, 1, 6);
        cutOff(y, 0, "goes 12345;", 9, 1, 9);
        cutOff(y, 0, "goes girls;", 9, 1, 5);
        cutOff(y, 0, "goes girls;", 10, 1, 10);
        cutOff(y, 0, "goes 1 ; goes 2;", 7, 1, 7);
        cutOff(y, 1, "in 1 girl 11;", 11, 1, 11);
        cutOff(y, 1, "in 1 boys 1;", 8, 1, 8);
        Due.feed(y, "goes 7;goes 8;!");
        y.end(7);
        Due.same("text(0)", y.text(0), 1);
    }

    /** Of a longer text only the first bytes are left. */
    private static void cutOff(NextDoorBrides x, int k, String text, int length, int kind, int place) {
        Due.feed(x, text);
        Due.yes("end(" + length + ")", x.end(length));
        Due.same("text(" + k + ") of '" + text + "' cut at " + length, x.text(k), -1);
        Due.same("fault(0)", x.fault(0), kind);
        Due.same("fault(1)", x.fault(1), place);
    }

    private static void aPartByZero() {
        Due.says("2 (at the NUMBER) a part by 0");
        NextDoorBrides x = Given.houses(1, 1, 1, 10);
        Due.fault(x, 0, "goes 1/0;", 2, 7);
        Due.fault(x, 0, "goes 1 / 00;", 2, 9);
        Due.fault(x, 0, "goes 1 /\n0000;", 2, 9);
        Due.fault(x, 0, "goes 1/2/0;", 2, 9);
        Due.fault(x, 0, "goes 1/2*3/0;", 2, 11);
        Due.fault(x, 0, "goes 1 when 1/0=1;", 2, 14);
        Due.fault(x, 0, "goes 1 when 1=1/0;", 2, 16);
        Due.lines(x, 0, "goes 0/1*0+0-0;", 1);
        Due.lines(x, 0, "goes 1/0001;", 1);
    }

    private static void beyondBounds() {
        Due.says("one beyond its bounds");
        NextDoorBrides x = Given.houses(2, 1, 1, 10);
        Due.fault(x, 1, "in 1000 girl 1;", 2, 3);
        Due.lines(x, 1, "in 999 girl 1;", 1);
        Due.fault(x, 1, "in 1 give 1 1000;", 2, 12);
        Due.fault(x, 1, "in 1 give 1 0;", 2, 12);
        Due.lines(x, 1, "in 1 give 1 999; in 1 give 1 1;", 2);
        Due.fault(x, 3, "house 1 side 2;", 2, 13);
        Due.fault(x, 3, "house 1 side 9999;", 2, 13);
        Due.lines(x, 3, "house 1 side 1; house 1 side 0; house 1 side 0001;", 3);
    }

    private static void noSuchHouse() {
        Due.says("a HOUSE that there is not");
        NextDoorBrides x = new NextDoorBrides();
        for (int count = 0; count <= 16; count++) {
            String first = "house " + count;
            String plan = "in 1 girl " + count;
            Due.fault(x, 1, plan + ";", 2, 10);
            Due.fault(x, 2, first + " feud 0;", 2, 6);
            Due.fault(x, 3, first + " side 0;", 2, 6);
            if (count > 0) {
                Due.fault(x, 2, "house 0 feud " + count + ";", 2, 13);
                Due.lines(x, 1, "in 1 girl " + (count - 1) + ";", 1);
                Due.lines(x, 3, "house " + (count - 1) + " side 0;", 1);
            }
            x = Given.houses(count + 1, 0, 0, 0);
        }
        NextDoorBrides y = Given.houses(16, 0, 0, 0);
        for (String word : new String[] {"girl", "boy", "widow", "comfort", "jug"}) {
            Due.lines(y, 1, "in 1 " + word + " 15;", 1);
            Due.fault(y, 1, "in 1 " + word + " 16;", 2, 6 + word.length());
            Due.fault(y, 1, "in 1 " + word + " 9999;", 2, 6 + word.length());
        }
        Due.lines(y, 1, "in 1 give 15 1;", 1);
        Due.fault(y, 1, "in 1 give 16 1;", 2, 10);
        Due.lines(y, 2, "house 15 feud 0; house 0 feud 15;", 2);
    }

    private static void theSameHouseAgain() {
        Due.says("the same HOUSE again (of FEUDS, behind feud)");
        NextDoorBrides x = Given.houses(16, 0, 0, 0);
        Due.fault(x, 2, "house 0 feud 0;", 2, 13);
        Due.fault(x, 2, "house 15 feud 15;", 2, 14);
        Due.fault(x, 2, "house 3 feud 0003;", 2, 13);
        Due.fault(x, 2, "house 0 feud 1; house 1 feud 1;", 2, 29);
        // in another line it may come again
        Due.lines(x, 2, "house 0 feud 1; house 0 feud 1; house 1 feud 0;", 3);
        Due.lines(x, 3, "house 0 side 0; house 0 side 0; house 1 side 1;", 3);
    }

    private static void theSeventeenthLine() {
        Due.says("3 (at its KEYWORD) the 17th line of a text");
        for (int k = 0; k <= 3; k++) {
            String sixteen = LINES[k].repeat(16);
            String word = LINES[k].substring(0, LINES[k].indexOf(' '));
            NextDoorBrides x = Given.houses(3, 1, 1, 10);
            Due.lines(x, k, sixteen + " \n", 16);
            Due.fault(x, k, sixteen + LINES[k], 3, sixteen.length());
            Due.fault(x, k, sixteen + "\n " + LINES[k], 3, sixteen.length() + 2);
            Due.fault(x, k, sixteen + word, 3, sixteen.length());
            Due.fault(x, k, sixteen + ";", 1, sixteen.length());
        }
        NextDoorBrides y = Given.houses(3, 1, 1, 10);
        String sixteen = "goes 1;bears 1;brings 1;goes 2;".repeat(4);
        Due.fault(y, 0, sixteen + "bears", 3, sixteen.length());
        Due.fault(y, 0, sixteen + "brings", 3, sixteen.length());
    }

    private static void theNinthOpen() {
        Due.says("(at it) the 9th ( or not that is open");
        NextDoorBrides x = Given.houses(1, 1, 1, 10);
        Due.lines(x, 0, "goes 1 when ((((((((1=1))))))));", 1);
        Due.fault(x, 0, "goes 1 when (((((((((1=1)))))))));", 3, 20);
        Due.lines(x, 0, "goes 1 when " + "not ".repeat(8) + "1=1;", 1);
        Due.fault(x, 0, "goes 1 when " + "not ".repeat(9) + "1=1;", 3, 44);
        Due.lines(x, 0, "goes 1 when not(not(not(not(1=1))));", 1);
        Due.fault(x, 0, "goes 1 when not(not(not(not((1=1)))));", 3, 28);
        Due.fault(x, 0, "goes 1 when not(not(not(not(not 1=1))));", 3, 28);
        // those that are closed again do not count, nor does a not whose own part is at its end
        Due.lines(x, 0, "goes 1 when " + "(1=1) and ".repeat(9) + "((((((((1=1))))))));", 1);
        Due.lines(x, 0, "goes 1 when " + "not 1=2 and ".repeat(9) + "((((((((1=1))))))));", 1);
        Due.fault(x, 0, "goes 1 when (((((((1=1 or not 1=1) and not 1=1) or ((((1=1", 3, 54);
        Due.lines(x, 0, "goes 1 when (((((((not 1=1 and not 1=1)))))));", 1);
        Due.fault(x, 0, "goes 1 when (((((((not(1=1))))))));", 3, 22);
        // each line begins anew
        Due.lines(x, 0, "goes 1 when ((((((((1=1))))))));goes 2 when ((((((((1=1))))))));", 2);
    }

    private static void theFirstLineThatIsSo() {
        Due.says("E of the first line with that word whose B is so, or that has none");
        NextDoorBrides x = Given.houses(2, 3, 4, 10);
        Due.lines(x, 0, "bears 5;goes 1 when number=0;goes 2;goes 3 when number=1;goes 4;brings 6;brings 7;", 7);
        Due.same("of(0, 8)", x.of(0, 8), 1);
        Due.same("of(1, 8)", x.of(1, 8), 2);
        Due.same("of(1, 9)", x.of(1, 9), 5);
        Due.same("of(1, 10)", x.of(1, 10), 6);
        String[] so = {"1=1", "1<2", "2>1", "not 1=2", "(1=1)", "not(not 1=1)", "1=2 or 1=1", "1=1 or 1=2", "1=1 and 2=2",
            "1=1 or 1=1 and 1=2", "1=2 and 1=2 or 1=1", "not 1=2 and 1=1", "not(1=2 and 1=1)", "(1=1 or 1=1) and 1=1", "1=2 or 1=2 or 1=1",
            "1<2 and 1=1", "1=1 and 2>1", "1<2 and 2>1", "2>1 and 1<2", "1=1 and not 1=2", "1=2 or not 1=2", "1=1 and (1=1 and not 1=2)",
            "(1=2 or 1=1) and (1=1 or 1=2)"};
        for (String b : so) {
            Due.same(b, law("1 when " + b), 1);
        }
        String[] not = {"1=2", "1<1", "1>1", "2<1", "1>2", "not 1=1", "1=2 or 2=1", "1=1 and 1=2", "1=2 and 1=1", "not 1=1 and 1=2",
            "not(1=1 or 1=2)", "(1=1 or 1=1) and 1=2", "1=1 and 1=1 and 1=2", "not 1=2 and 1=2", "not not not 1=1",
            "not 1<2", "not 2>1", "1=1 and not 1=1", "1=2 or not 1=1", "1=1 and (1=1 and not 1=1)", "1<2 and not 2>1", "1=1 and not(1=1 or 1=2)"};
        for (String b : not) {
            Due.same(b, law("1 when " + b), 9);
        }
    }

    /** A law of one line, of 400 bytes. */
    private static int longLaw(String start, String more, String end) {
        StringBuilder text = new StringBuilder("goes " + start);
        while (text.length() + more.length() + end.length() + 1 <= 400) {
            text.append(more);
        }
        text.append(end);
        while (text.length() < 399) {
            text.append(' ');
        }
        NextDoorBrides x = Given.houses(1, 1, 1, 10);
        Due.lines(x, 0, text.append(';').toString(), 1);
        return x.of(0, 8);
    }

    private static void asLongAsTheTape() {
        Due.says("E = T {(+ | -) T}. T = U {* U | / NUMBER}.");
        Due.same("1+1+ ..", longLaw("1", "+1", ""), 197);
        Due.same("1*1* .. +7", longLaw("1", "*1", "+7"), 8);
        Due.same("9/1/1/ ..", longLaw("9", "/1", ""), 9);
        Due.same("500-1-1- ..", longLaw("500", "-1", ""), 500 - 195);
        Due.says("B = A {or A}. A = C {and C}.");
        Due.same("1=2 or .. or 1=1", longLaw("5 when 1=2", "or 1=2", "or 1=1"), 5);
        Due.same("1=2 or .. or 1=2", longLaw("5 when 1=2", "or 1=2", "or 1=2"), 800);
        Due.same("1=1 and .. and 1=1", longLaw("5 when 1=1", "and 1=1", "and 1=1"), 5);
        Due.same("1=1 and .. and 1=2", longLaw("5 when 1=1", "and 1=1", "and 1=2"), 800);
    }

    private static void asDeepAsCanBe() {
        Due.says("C = E (< | = | >) E | not C | ( B ).");
        String open = "1=2 or 1=1 and(".repeat(8);
        String close = ")".repeat(8);
        Due.same("eight ( with all open", law("1 when " + open + "1=2 or 1=1 and 1+2*3=9-1*2" + close), 1);
        Due.same("eight ( with all open", law("1 when " + open + "1=2 or 1=1 and 1+2*3=9-1*3" + close), 9);
        Due.same("eight of both", law("1 when " + "1=2 or 1=1 and not(".repeat(4) + "1=2 or 1=1 and 2>1" + ")".repeat(4)), 1);
        Due.same("seven of both", law("1 when not(" + "1=2 or 1=1 and not(".repeat(3) + "1=2 or 1=1 and 2>2" + ")".repeat(4)), 9);
    }

    private static void withoutALine() {
        Due.says("(none: goes: 800 less 100 times gaps, bears: 2, brings: dowry by 2)");
        NextDoorBrides x = Given.houses(2, 9, 0, 9999);
        Due.lines(x, 0, "goes 1 when 1=2;bears 1 when 1=2;brings 1 when 1=2;", 3);
        for (int gaps = 0; gaps <= 9; gaps++) {
            Due.same("of(0, 8) with gaps " + gaps, x.of(0, 8), Math.max(0, 800 - 100 * gaps));
            x.set(0, 1, 0);
            x.years(1);
        }
        Due.same("look(3)", x.look(3), 10);
        Due.same("of(0, 9)", x.of(0, 9), 2);
        Due.same("of(0, 10)", x.of(0, 10), 4999);
        x.set(2, 0, 0);
        Due.same("of(0, 10) of 0", x.of(0, 10), 0);
        x.set(2, 0, 1);
        Due.same("of(0, 10) of 1", x.of(0, 10), 0);
        x.set(2, 0, 2);
        Due.same("of(0, 10) of 2", x.of(0, 10), 1);
    }

    private static void answersAreHeld() {
        Due.says("goes held to 0 .. 1000, bears to 0 .. 5, brings to 0 .. its DOWRY");
        int[][] goes = {{-1, 0}, {0, 0}, {1, 1}, {999, 999}, {1000, 1000}, {1001, 1000}, {9999, 1000}};
        for (int[] g : goes) {
            Due.same("goes of " + g[0], law(g[0] < 0 ? "0-1" : "" + g[0]), g[1]);
        }
        Due.same("goes of the least", law("1024*1024*2048"), 0);
        Due.same("goes of the most", law("1024*1024*2047+1024*1024-1"), 1000);
        NextDoorBrides x = Given.houses(1, 1, 1, 7);
        String[] bears = {"0-1", "0", "1", "4", "5", "6", "9999"};
        int[] borne = {0, 0, 1, 4, 5, 5, 5};
        for (int i = 0; i < bears.length; i++) {
            Due.lines(x, 0, "bears " + bears[i] + ";", 1);
            Due.same("of(0, 9)", x.of(0, 9), borne[i]);
        }
        String[] brings = {"0-1", "0", "1", "6", "7", "8", "9999", "dowry+1", "dowry-1"};
        int[] brought = {0, 0, 1, 6, 7, 7, 7, 7, 6};
        for (int i = 0; i < brings.length; i++) {
            Due.lines(x, 0, "brings " + brings[i] + ";", 1);
            Due.same("of(0, 10)", x.of(0, 10), brought[i]);
        }
        x.set(2, 0, 0);
        Due.same("of(0, 10) of nothing", x.of(0, 10), 0);
        x.set(2, 0, 9999);
        Due.lines(x, 0, "brings dowry+1;", 1);
        Due.same("of(0, 10) of all", x.of(0, 10), 9999);
    }

    private static void whatTheLawSpeaksOf() {
        Due.says("girls, boys, couples, dowry, widow, side: the HOUSE's; number: which it is; jug: 1, if the JUG is there; gaps: GAPS; generation.");
        NextDoorBrides x = Given.houses(16, 0, 0, 0);
        x.set(0, 15, 9);
        x.set(1, 15, 8);
        x.set(3, 15, 7);
        x.set(2, 15, 999);
        x.set(4, 15, 1);
        Due.tell(x, 3, "house 15 side 1;");
        x.act(4, 15);
        String[] names = {"girls", "boys", "couples", "dowry", "widow", "number", "side", "jug", "gaps", "generation"};
        int[] there = {9, 8, 7, 999, 1, 15, 1, 1, 0, 0};
        for (int i = 0; i < names.length; i++) {
            Due.lines(x, 0, "goes " + names[i] + ";", 1);
            Due.same(names[i] + " of 15", x.of(15, 8), there[i]);
            Due.same(names[i] + " of 0", x.of(0, 8), 0);
            Due.same(names[i] + " of 14", x.of(14, 8), names[i].equals("number") ? 14 : 0);
        }
        NextDoorBrides y = Given.houses(2, 1, 0, 0);
        Due.tell(y, 0, "goes gaps;bears generation;");
        y.set(0, 1, 0);
        for (int i = 0; i < 4; i++) {
            Due.same("gaps", y.of(1, 8), i);
            Due.same("generation", y.of(1, 9), i);
            y.years(1);
        }
    }

    private static void feedHighestFirst() {
        Due.says("Twenty bytes come behind the TAPE, of each number the highest first: how many it has.");
        NextDoorBrides x = Given.houses(1, 1, 1, 10);
        Due.same("feed", x.feed(0x676f6573, 0x20312b32, 0x202a2067, 0x69726c73, 0x3b626561), 20);
        Due.same("feed", x.feed(0x72732033, BLANKS, BLANKS, BLANKS, 0x2020203b), 40);
        Due.same("text(0) of 'goes 1+2 * girls;bears 3 .. ;'", x.text(0), 2);
        Due.same("of(0, 8)", x.of(0, 8), 3);
        Due.same("of(0, 9)", x.of(0, 9), 3);
        // the highest bit is no sign
        Due.same("feed", x.feed(0x676f6573, 0x80ffffff, FAR, LOW, -1), 20);
        Due.same("text(0)", x.text(0), -1);
        Due.same("fault(1)", x.fault(1), 4);
    }

    private static void feedAtFourHundred() {
        Due.says("NONE, and nothing comes, if there would be more than 400.");
        NextDoorBrides x = Given.houses(1, 1, 1, 10);
        for (int i = 1; i <= 20; i++) {
            Due.same("feed", x.feed(BLANKS, BLANKS, BLANKS, BLANKS, BLANKS), 20 * i);
        }
        Due.same("feed at 400", x.feed(-1, -1, -1, -1, -1), -1);
        Due.no("end(401)", x.end(401));
        Due.yes("end(400)", x.end(400));
        Due.yes("end(381)", x.end(381));
        Due.same("feed at 381", x.feed(-1, -1, -1, -1, -1), -1);
        Due.no("end(382), nothing came", x.end(382));
        Due.yes("end(380)", x.end(380));
        Due.same("feed at 380", x.feed(BLANKS, BLANKS, BLANKS, BLANKS, 0x20202021), 400);
        Due.same("feed at 400", x.feed(-1, -1, -1, -1, -1), -1);
        Due.same("text(0)", x.text(0), -1);
        Due.same("fault(1), the last byte", x.fault(1), 399);
        Due.same("feed, empty then", x.feed(BLANKS, BLANKS, BLANKS, BLANKS, BLANKS), 20);
        Due.same("text(0), nothing of it was left", x.text(0), 0);
    }

    private static void endOfTheTape() {
        Due.says("The TAPE has its first n bytes alone: true; false, changing nothing, if it has not so many, or n is below 0.");
        NextDoorBrides x = Given.houses(1, 1, 1, 10);
        Due.yes("end(0) of none", x.end(0));
        Due.no("end(1) of none", x.end(1));
        Due.no("end(-1) of none", x.end(-1));
        x.feed(0x676f6573, 0x20373b67, 0x6f657320, 0x383b2121, BLANKS);
        for (int n : new int[] {-1, 21, 400, LOW, FAR}) {
            Due.no("end(" + n + ")", x.end(n));
        }
        Due.yes("end(20)", x.end(20));
        Due.yes("end(14)", x.end(14));
        Due.no("end(15)", x.end(15));
        Due.no("end(20)", x.end(20));
        Due.yes("end(7)", x.end(7));
        Due.no("end(-1)", x.end(-1));
        Due.same("text(0) of 'goes 7;'", x.text(0), 1);
        Due.same("of(0, 8)", x.of(0, 8), 7);
        // what was cut off does not come again
        x.feed(0x21212121, 0x21212121, 0x21212121, 0x21212121, 0x21212121);
        Due.yes("end(0)", x.end(0));
        Due.same("feed", x.feed(BLANKS, BLANKS, BLANKS, BLANKS, BLANKS), 20);
        Due.same("text(0)", x.text(0), 0);
    }

    private static void tapeEmptyThen() {
        Due.says("The TAPE, empty then (whatever k, with a FAULT too), is TEXT k: how many lines.");
        for (int k : new int[] {LOW, -1, 0, 1, 2, 3, 4, FAR}) {
            NextDoorBrides x = Given.houses(3, 1, 1, 10);
            Due.feed(x, "x");
            Due.same("text(" + k + ") of 'x'", x.text(k), -1);
            Due.no("end(1) behind it", x.end(1));
            Due.same("text(0) of nothing", x.text(0), 0);
            Due.feed(x, k >= 0 && k <= 3 ? LINES[k] : "goes 1;");
            Due.same("text(" + k + ")", x.text(k), k >= 0 && k <= 3 ? 1 : -1);
            Due.no("end(1) behind it", x.end(1));
            Due.same("feed", x.feed(BLANKS, BLANKS, BLANKS, BLANKS, BLANKS), 20);
        }
    }

    private static void noSuchText() {
        Due.says("NONE: no such one (fault() tells 0)");
        for (int k : new int[] {LOW, -1, 4, 5, FAR}) {
            NextDoorBrides x = Given.houses(3, 1, 1, 10);
            for (int t = 0; t <= 3; t++) {
                Due.lines(x, t, LINES[t], 1);
            }
            x.act(1, 0);
            Due.fault(x, 1, "in 1000", 2, 3);
            String before = Seen.street(x);
            Due.feed(x, "goes 7;");
            Due.same("text(" + k + ")", x.text(k), -1);
            Due.same("fault(0)", x.fault(0), 0);
            Due.same("fault(1)", x.fault(1), -1);
            Due.same("all", Seen.street(x), before);
            Due.same("look(13)", x.look(13), 1);
        }
    }

    private static void staysAsItWas() {
        Due.says("or a FAULT (it stays as it was)");
        String[] other = {"goes 2;bears 1;brings 1;", "in 0 boy 0;in 0 girl 2;", "house 2 feud 0;house 0 feud 1;", "house 2 side 1;house 1 side 0;"};
        for (int k = 0; k <= 3; k++) {
            NextDoorBrides x = Given.houses(3, 1, 1, 10);
            for (int t = 0; t <= 3; t++) {
                Due.lines(x, t, LINES[t], 1);
            }
            x.act(1, 0);
            String before = Seen.street(x);
            Due.fault(x, k, other[k] + "!", 1, other[k].length());
            Due.same("all", Seen.street(x), before);
            Due.same("look(13)", x.look(13), 1);
            // nor does anything of it come with another text that is told then
            for (int t = 0; t <= 3; t++) {
                if (t != k) {
                    Due.lines(x, t, LINES[t], 1);
                }
            }
            Due.same("all", Seen.street(x), before);
            x.years(2);
            Due.same("of(1, 0), by the plan that stands", x.of(1, 0), 2);
        }
    }

    private static void faultOfTheLatest() {
        Due.says("Of the latest text() what 0 the FAULT (0 without one), 1 its place (NONE). NONE for another what.");
        NextDoorBrides x = Given.houses(2, 1, 1, 10);
        Due.same("fault(0) at first", x.fault(0), 0);
        Due.same("fault(1) at first", x.fault(1), -1);
        Due.fault(x, 1, "in 1000", 2, 3);
        Due.feed(x, "goes 1;");
        x.end(3);
        x.years(1);
        Due.same("fault(0), no text since", x.fault(0), 2);
        Due.same("fault(1), no text since", x.fault(1), 3);
        for (int what : new int[] {-1, 2, 3, LOW, FAR}) {
            Due.same("fault(" + what + ")", x.fault(what), -1);
        }
        Due.same("text(0)", x.text(0), -1);
        Due.same("fault(0)", x.fault(0), 1);
        Due.same("fault(1), at the very first", x.fault(1), 0);
        Due.lines(x, 0, "goes 1;", 1);
        for (int what : new int[] {-1, 2, LOW, FAR}) {
            Due.same("fault(" + what + ")", x.fault(what), -1);
        }
    }
}

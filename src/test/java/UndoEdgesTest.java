/** Boundary cases of UNDO and THE IMAGE in "Terms" 4 and of the promises 34 and 35, sentence by sentence. */
public final class UndoEdgesTest {
    private static final int FAR = Given.FAR;
    private static final int LOW = Given.LOW;

    private UndoEdgesTest() {
    }

    public static void main(String[] args) {
        eachGoesBack();
        stateAndBookToo();
        sixAreKept();
        notUndoneYet();
        nothingToUndo();
        whatForgets();
        theLawDoesNot();
        whatIsToldForThoughtDoesNot();
        takingTheImageDoesNot();
        whatIsRefusedDoesNot();
        theTapeDoesNot();
        imageOfAll();
        imageOfThoughts();
        imageOfTheBook();
        imageWithoutTheTape();
        imageAndWhatCanBeUndone();
        imageMoreThanOnce();
        imageThereIsNone();
        Due.finish();
    }

    private static NextDoorBrides street() {
        NextDoorBrides x = Given.street(Given.h(3, 2, 100), Given.h(2, 3, 50), Given.h(1, 1, 20));
        x.set(4, 2, 1);
        return x;
    }

    /** One generation can be undone. */
    private static NextDoorBrides done() {
        NextDoorBrides x = street();
        x.years(1);
        Due.same("look(13)", x.look(13), 1);
        return x;
    }

    private static void eachGoesBack() {
        Due.says("UNDO: the latest GENERATION, WEDDING, child, comfort, JUG by hand not undone yet goes back");
        int[][] deeds = {{0, 0}, {0, 2}, {1, 0}, {2, 0}, {3, 2}, {4, 2}};
        for (int[] deed : deeds) {
            NextDoorBrides x = street();
            String before = Seen.all(x);
            Due.yes("act(" + deed[0] + ", " + deed[1] + ")", x.act(deed[0], deed[1]));
            Due.same("look(13)", x.look(13), 1);
            Due.no("all is as before", Seen.street(x).equals(before));
            Due.yes("undo()", x.undo());
            Due.same("all", Seen.all(x), before);
        }
        // of several generations each alone
        NextDoorBrides x = street();
        String[] before = new String[3];
        for (int i = 0; i < 3; i++) {
            before[i] = Seen.street(x);
            x.years(1);
        }
        NextDoorBrides y = street();
        y.years(3);
        for (int i = 2; i >= 0; i--) {
            Due.yes("undo()", x.undo());
            Due.yes("undo()", y.undo());
            Due.same("all", Seen.street(x), before[i]);
            Due.same("all, of years(3)", Seen.street(y), before[i]);
        }
    }

    private static void stateAndBookToo() {
        Due.says("(STATE, THE BOOK, too)");
        NextDoorBrides x = street();
        x.state(77);
        x.act(0, 0);
        x.years(1);
        Due.no("look(8)", x.look(8) == 77);
        int lines = x.look(7);
        Due.yes("look(7)", lines > 1);
        Due.yes("undo()", x.undo());
        Due.same("look(8)", x.look(8), 77);
        Due.same("look(7)", x.look(7), 1);
        Due.same("book(1, 0)", x.book(1, 0), -1);
        Due.same("book(0, 1)", x.book(0, 1), 0);
        Due.yes("undo()", x.undo());
        Due.same("look(7)", x.look(7), 0);
        Due.same("book(0, 0)", x.book(0, 0), -1);
        // another line where one was undone
        x.act(0, 1);
        x.undo();
        x.set(4, 2, 0);
        x.act(0, 1);
        Given.bookIs(x, 0, 0, 0, 1, 25);
    }

    private static void sixAreKept() {
        Due.says("6 are kept");
        NextDoorBrides x = Given.houses(1, 0, 0, 0);
        for (int i = 1; i <= 9; i++) {
            x.act(1, 0);
            Due.same("look(13) behind " + i, x.look(13), Math.min(i, 6));
        }
        for (int i = 1; i <= 6; i++) {
            Due.yes("undo()", x.undo());
            Due.same("of(0, 0)", x.of(0, 0), 9 - i);
            Due.same("look(13)", x.look(13), 6 - i);
        }
        Due.no("undo(), the seventh", x.undo());
        Due.same("of(0, 0)", x.of(0, 0), 3);
        // of years(60) the last six, whatever was before
        NextDoorBrides y = Given.houses(1, 0, 0, 0);
        y.act(2, 0);
        y.years(60);
        Due.same("look(13)", y.look(13), 6);
        for (int i = 1; i <= 6; i++) {
            Due.yes("undo()", y.undo());
            Due.same("look(6)", y.look(6), 60 - i);
        }
        Due.no("undo(), the seventh", y.undo());
        Due.same("look(6)", y.look(6), 54);
        Due.same("of(0, 1)", y.of(0, 1), 1);
    }

    private static void notUndoneYet() {
        Due.says("not undone yet");
        NextDoorBrides x = Given.houses(1, 0, 0, 0);
        x.years(5);
        x.undo();
        x.undo();
        Due.same("look(6)", x.look(6), 3);
        x.act(2, 0);
        x.years(1);
        Due.same("look(13)", x.look(13), 5);
        int[] generations = {3, 3, 2, 1, 0};
        int[] boys = {1, 0, 0, 0, 0};
        for (int i = 0; i < 5; i++) {
            Due.yes("undo()", x.undo());
            Due.same("look(6)", x.look(6), generations[i]);
            Due.same("of(0, 1)", x.of(0, 1), boys[i]);
        }
        Due.no("undo()", x.undo());
    }

    private static void nothingToUndo() {
        Due.says("UNDO: true; false if there is nothing.");
        NextDoorBrides x = new NextDoorBrides();
        Due.no("undo() of a new one", x.undo());
        x.house(1, 1, 1);
        Due.no("undo() of a house", x.undo());
        x.act(1, 0);
        Due.yes("undo()", x.undo());
        String before = Seen.all(x);
        Due.no("undo() again", x.undo());
        Due.no("undo() again", x.undo());
        Due.same("all", Seen.all(x), before);
    }

    private static void forgotten(String call, NextDoorBrides x) {
        Due.same("look(13) behind " + call, x.look(13), 0);
        Due.no("undo() behind " + call, x.undo());
        Due.same("look(6)", x.look(6), 1);
    }

    private static void whatForgets() {
        Due.says("whatever else is told but THE LAW and what is told for thought");
        NextDoorBrides x = done();
        x.state(x.look(8));
        forgotten("state, though it is the same", x);
        x = done();
        Due.same("house", x.house(0, 0, 0), 3);
        forgotten("house", x);
        for (int what = 0; what <= 4; what++) {
            x = done();
            Due.yes("set", x.set(what, 0, x.of(0, what)));
            forgotten("set, though it is the same", x);
        }
        for (int k = 1; k <= 3; k++) {
            x = done();
            Due.same("text(" + k + ")", x.text(k), 0);
            forgotten("an empty text " + k, x);
        }
        String[] lines = {"", "in 1 girl 1;", "house 1 feud 2;", "house 1 side 1;"};
        for (int k = 1; k <= 3; k++) {
            x = done();
            Due.lines(x, k, lines[k], 1);
            forgotten("text " + k, x);
        }
        x = done();
        x.image(true);
        Due.yes("image(false)", x.image(false));
        forgotten("the image gone back to", x);
        // all six are forgotten, and new ones are kept behind it
        x = done();
        x.years(10);
        x.state(0);
        Due.same("look(13)", x.look(13), 0);
        x.years(1);
        Due.same("look(13)", x.look(13), 1);
        Due.yes("undo()", x.undo());
        Due.no("undo()", x.undo());
    }

    private static void theLawDoesNot() {
        Due.says("but THE LAW");
        NextDoorBrides x = done();
        Due.lines(x, 0, "goes 123;", 1);
        Due.same("look(13)", x.look(13), 1);
        Due.yes("undo()", x.undo());
        Due.same("look(6)", x.look(6), 0);
        Due.same("of(0, 8), it stays", x.of(0, 8), 123);
        x = done();
        Due.same("text(0), an empty one", x.text(0), 0);
        Due.same("look(13)", x.look(13), 1);
    }

    private static void whatIsToldForThoughtDoesNot() {
        Due.says("what is told for thought (PLANNED, BOUGHT, PUSHED, KIN, MOVED, WINDOWS)");
        NextDoorBrides x = done();
        x.child(0);
        Due.same("look(13) behind child", x.look(13), 1);
        x.bought(0, 1);
        Due.same("look(13) behind bought", x.look(13), 1);
        x.dowry(2);
        Due.same("look(13) behind dowry", x.look(13), 1);
        x.person(-1, -1);
        Due.same("look(13) behind person", x.look(13), 1);
        x.moved(0, 1);
        Due.same("look(13) behind moved", x.look(13), 1);
        x.height(3);
        Due.same("look(13) behind height", x.look(13), 1);
        String before = Seen.thoughts(x);
        Due.yes("undo()", x.undo());
        Due.same("what is told for thought stays", Seen.thoughts(x), before);
        x = done();
        x.child(-1);
        x.bought(-1, 0);
        x.dowry(-1);
        x.person(-10, 0);
        x.moved(0, -1);
        x.height(-1);
        Due.same("look(13) behind none of each", x.look(13), 1);
    }

    private static void takingTheImageDoesNot() {
        Due.says("(the taking of THE IMAGE does not)");
        NextDoorBrides x = done();
        x.years(7);
        x.image(true);
        Due.same("look(13)", x.look(13), 6);
        x.image(true);
        for (int i = 0; i < 6; i++) {
            Due.yes("undo()", x.undo());
        }
        Due.same("look(6)", x.look(6), 2);
    }

    private static void whatIsRefusedDoesNot() {
        Due.reads("a call that answers NONE or false tells nothing, so it forgets nothing");
        NextDoorBrides x = Given.houses(16, 9, 9, 9999);
        x.years(1);
        x.house(1, 1, 1);
        x.house(10, 0, 0);
        x.set(5, 0, 0);
        x.set(0, 0, 10);
        x.set(0, 16, 1);
        x.act(9, 0);
        x.act(4, x.look(4));
        x.years(0);
        x.years(61);
        x.image(false);
        x.text(4);
        Due.fault(x, 1, "in 1000", 2, 3);
        Due.fault(x, 2, "house 0 feud 0", 2, 13);
        Due.fault(x, 3, "house 0 side 2", 2, 13);
        Due.same("look(13)", x.look(13), 1);
        Due.yes("undo()", x.undo());
        Due.same("look(6)", x.look(6), 0);
    }

    private static void theTapeDoesNot() {
        Due.reads("what comes on the TAPE is not told yet: it forgets nothing and is not undone");
        NextDoorBrides x = done();
        Due.feed(x, "goes 77;");
        Due.same("look(13)", x.look(13), 1);
        Due.yes("undo()", x.undo());
        Due.no("end(9)", x.end(9));
        Due.same("text(0)", x.text(0), 1);
        Due.same("of(0, 8)", x.of(0, 8), 77);
    }

    private static NextDoorBrides full() {
        NextDoorBrides x = street();
        Due.tell(x, 0, "goes 900;bears 1;");
        Due.tell(x, 1, "in 2 girl 0;");
        Due.tell(x, 2, "house 2 feud 0;house 1 feud 2;");
        Due.tell(x, 3, "house 2 side 1;");
        x.state(5);
        x.years(2);
        x.act(4, 2);
        for (int i = 0; i < 2; i++) {
            x.child(0);
            x.bought(i, i + 1);
            x.dowry(5);
            x.person(-1, -1);
            x.height(7 + i);
            x.moved(i, 1 - i);
        }
        return x;
    }

    /** All that was told is told otherwise. */
    private static void change(NextDoorBrides x) {
        x.child(0);
        x.bought(5, 6);
        x.dowry(60);
        x.person(0, 1);
        x.height(60);
        x.moved(1, -2);
        x.house(1, 1, 1);
        x.set(2, 0, 4321);
        x.state(99);
        x.years(3);
        x.act(4, 3);
        for (int k = 0; k <= 3; k++) {
            x.text(k);
        }
        x.years(3);
    }

    private static void imageOfAll() {
        Due.says("as it was when it was taken");
        NextDoorBrides x = full();
        String street = Seen.street(x);
        Due.yes("image(true)", x.image(true));
        Due.same("nothing changes by its taking", Seen.street(x), street);
        change(x);
        Due.yes("image(false)", x.image(false));
        Due.same("the street", Seen.street(x), street);
        // and it goes on as it would have gone on
        NextDoorBrides y = full();
        x.years(2);
        y.years(2);
        Due.same("the street, two generations on", Seen.street(x), Seen.street(y));
    }

    private static void imageOfThoughts() {
        Due.says("THE IMAGE: all that is and was told");
        NextDoorBrides x = full();
        String thoughts = Seen.thoughts(x);
        Due.yes("image(true)", x.image(true));
        change(x);
        Due.no("other thoughts", Seen.thoughts(x).equals(thoughts));
        Due.yes("image(false)", x.image(false));
        Due.same("the thoughts", Seen.thoughts(x), thoughts);
        // where all rows can be filled again to their ends
        for (int i = 3; i <= 12; i++) {
            Due.same("child", x.child(1), i);
        }
        Due.same("child, the thirteenth", x.child(1), -1);
        Due.same("person", x.person(0, 1), 2);
    }

    private static void imageOfTheBook() {
        Due.says("THE IMAGE: all that is and was told");
        // a long book, of which the last six generations are undone and lived otherwise
        NextDoorBrides x = Given.houses(6, 9, 0, 0);
        Due.tell(x, 0, "goes 0;");
        x.years(29);
        x.image(true);
        Due.same("look(7)", x.look(7), 145);
        for (int i = 0; i < 6; i++) {
            x.undo();
        }
        x.set(1, 1, 1);
        x.act(0, 0);
        x.years(9);
        Due.same("look(7)", x.look(7), 150);
        Given.bookIs(x, 115, 23, 0, 0, 0);
        Due.yes("image(false)", x.image(false));
        Due.same("look(7)", x.look(7), 145);
        for (int i = 0; i < 145; i += 12) {
            Given.bookIs(x, i, i / 5, 2, i % 5, i % 5 + 1);
        }
        Given.bookIs(x, 115, 23, 2, 0, 1);
        Given.bookIs(x, 144, 28, 2, 4, 5);
        Due.same("book(145, 0)", x.book(145, 0), -1);
    }

    private static void imageWithoutTheTape() {
        Due.says("but the TAPE, fault()");
        NextDoorBrides x = street();
        Due.feed(x, "goes 5;");
        x.image(true);
        Due.same("text(0)", x.text(0), 1);
        Due.fault(x, 0, "goes 1/0;", 2, 7);
        Due.feed(x, "goes 66;");
        x.image(false);
        Due.same("fault(0)", x.fault(0), 2);
        Due.same("fault(1)", x.fault(1), 7);
        Due.same("look(9)", x.look(9), 0);
        Due.no("end(9)", x.end(9));
        Due.yes("end(8)", x.end(8));
        Due.same("text(0)", x.text(0), 1);
        Due.same("of(0, 8)", x.of(0, 8), 66);
    }

    private static void imageAndWhatCanBeUndone() {
        Due.says("what can be undone (nothing then)");
        NextDoorBrides x = street();
        x.years(3);
        x.image(true);
        Due.same("look(13)", x.look(13), 3);
        x.years(2);
        x.image(false);
        Due.same("look(13)", x.look(13), 0);
        Due.no("undo()", x.undo());
        Due.same("look(6)", x.look(6), 3);
        x.years(1);
        Due.same("look(13)", x.look(13), 1);
        Due.yes("undo()", x.undo());
        Due.same("look(6)", x.look(6), 3);
    }

    private static void imageMoreThanOnce() {
        Due.says("gone back to it may be more than once.");
        NextDoorBrides x = street();
        x.image(true);
        String first = Seen.street(x);
        for (int i = 0; i < 3; i++) {
            x.years(1 + i);
            x.house(1, 1, 1);
            Due.yes("image(false)", x.image(false));
            Due.same("the street", Seen.street(x), first);
        }
        Due.yes("image(false), at once again", x.image(false));
        Due.same("the street", Seen.street(x), first);
        // the one that was taken last counts
        x.house(2, 2, 2);
        x.image(true);
        x.house(3, 3, 3);
        x.image(false);
        Due.same("look(0)", x.look(0), 4);
        // gone back to an earlier one it is still there
        x.undo();
        x.years(1);
        x.image(false);
        Due.same("look(0)", x.look(0), 4);
        Due.same("look(6)", x.look(6), 0);
    }

    private static void imageThereIsNone() {
        Due.says("THE IMAGE is taken (true), or gone back to (false): true; false if there is none.");
        NextDoorBrides x = done();
        String before = Seen.all(x);
        Due.no("image(false)", x.image(false));
        Due.same("all", Seen.all(x), before);
        // of an object without houses
        NextDoorBrides y = new NextDoorBrides();
        Due.yes("image(true)", y.image(true));
        before = Seen.all(y);
        y.house(1, 1, 1);
        y.act(0, 0);
        y.state(LOW);
        y.state(FAR);
        y.moved(0, 1);
        Due.yes("image(false)", y.image(false));
        Due.same("all", Seen.all(y), before);
        Due.same("look(4)", y.look(4), -1);
        Due.same("house", y.house(0, 2, 0), 0);
        Given.houseIs(y, 0, 0, 2, 0, 0, 0, 0);
    }
}

/** Promises 34 and 35: all undone that was done, and the image. */
public final class UndoImageTest {
    private UndoImageTest() {
    }

    public static void main(String[] args) {
        undoBringsAllBack();
        sixAreKept();
        whatForgets();
        whatDoesNotForget();
        lawStaysAtUndo();
        imageHasAllThatWasTold();
        imageMoreThanOnce();
        imageKeepsTheBook();
        imageAndUndo();
        imageOfNothing();
        Due.finish();
    }

    private static NextDoorBrides street() {
        NextDoorBrides x = new NextDoorBrides();
        x.house(3, 2, 100);
        x.house(2, 3, 50);
        x.house(1, 1, 20);
        return x;
    }

    private static void undoBringsAllBack() {
        NextDoorBrides x = street();
        x.set(4, 2, 1);
        x.state(99);
        int[][] deeds = {{0, 0}, {1, 2}, {2, 0}, {3, 2}, {4, 2}};
        for (int[] deed : deeds) {
            String before = Seen.street(x);
            Due.yes("act(" + deed[0] + ", " + deed[1] + ")", x.act(deed[0], deed[1]));
            Due.no("another one", Seen.street(x).equals(before));
            Due.yes("undo()", x.undo());
            Due.same("as before", Seen.street(x), before);
            x.act(deed[0], deed[1]);
        }
        Due.same("look(13)", x.look(13), 5);
        String before = Seen.street(x);
        x.years(1);
        String between = Seen.street(x);
        x.years(1);
        Due.yes("undo()", x.undo());
        Due.same("as between", Seen.street(x), between);
        Due.yes("undo()", x.undo());
        Due.same("as before", Seen.street(x), before);
        Due.same("STATE", x.look(8), 99);
        x.years(1);
        Due.same("the same again", Seen.street(x), between);
    }

    private static void sixAreKept() {
        NextDoorBrides x = street();
        x.years(4);
        Due.same("look(13)", x.look(13), 4);
        x.years(60);
        Due.same("look(13)", x.look(13), 6);
        for (int i = 0; i < 6; i++) {
            Due.yes("undo()", x.undo());
            Due.same("look(6)", x.look(6), 63 - i);
            Due.same("look(13)", x.look(13), 5 - i);
        }
        Due.no("undo()", x.undo());
        Due.same("look(6)", x.look(6), 58);
        x.years(1);
        x.years(60);
        Due.same("look(13)", x.look(13), 6);
        x.undo();
        x.undo();
        x.years(1);
        Due.same("look(13)", x.look(13), 5);
    }

    private static NextDoorBrides done() {
        NextDoorBrides x = street();
        x.set(2, 0, 7);
        x.years(1);
        Due.same("look(13)", x.look(13), 1);
        return x;
    }

    private static void whatForgets() {
        NextDoorBrides x = done();
        x.state(0);
        Due.no("undo() behind state", x.undo());
        x = done();
        x.house(0, 0, 0);
        Due.no("undo() behind house", x.undo());
        x = done();
        x.set(2, 0, 7);
        Due.no("undo() behind set", x.undo());
        for (int k = 1; k <= 3; k++) {
            x = done();
            Due.same("text(" + k + ")", x.text(k), 0);
            Due.no("undo() behind text(" + k + ")", x.undo());
        }
        x = done();
        x.image(true);
        Due.yes("image(false)", x.image(false));
        Due.no("undo() behind the image", x.undo());
    }

    private static void whatDoesNotForget() {
        NextDoorBrides x = done();
        x.feed(0, 0, 0, 0, 0);
        x.end(0);
        x.text(0);
        x.text(9);
        x.image(true);
        x.child(1);
        x.bought(1, 2);
        x.dowry(3);
        x.person(-1, -1);
        x.moved(1, 2);
        x.height(4);
        x.child(-1);
        x.bought(-1, 2);
        x.dowry(-1);
        x.person(-10, -1);
        x.height(-1);
        x.house(10, 0, 0);
        x.set(2, 0, -1);
        x.act(9, 9);
        x.years(0);
        x.goes(5, 0);
        x.jug(2);
        Due.fault(x, 1, "x", 1, 0);
        Due.same("look(13)", x.look(13), 1);
        Due.yes("undo()", x.undo());
        Due.same("look(6)", x.look(6), 0);
        NextDoorBrides y = done();
        y.image(false);
        Due.same("look(13) behind no image", y.look(13), 1);
    }

    private static void lawStaysAtUndo() {
        NextDoorBrides x = done();
        Due.lines(x, 0, "goes 123;", 1);
        Due.yes("undo()", x.undo());
        Due.same("of(0, 8)", x.of(0, 8), 123);
        Due.same("look(9)", x.look(9), 1);
        x = done();
        x.height(5);
        x.height(6);
        Due.yes("undo()", x.undo());
        Due.same("windows(0)", x.windows(0), 1);
    }

    private static void tellThoughts(NextDoorBrides x, int more) {
        for (int i = 0; i < 2 + more; i++) {
            x.child(0);
            x.bought(i, i + 1);
            x.dowry(5);
            x.person(-1, -1);
            x.height(7 + i);
            x.moved(i, i + 1);
        }
        x.moved(2 + more, -2);
    }

    private static void thoughtsAre(NextDoorBrides x, int n) {
        Due.same("planned(0)", x.planned(0), n / 2);
        Due.same("rows(9, 1)", x.rows(9, 1), n == 2 ? 5040 : 120);
        Due.same("pushed(n)", x.pushed(n) >= 0 ? 1 : 0, 1);
        Due.same("pushed(n + 1)", x.pushed(n + 1), -1);
        Due.same("akin(n - 1)", x.akin(n - 1, n - 1, 1), 2);
        Due.same("akin(n)", x.akin(n, n, 1), -1);
        Due.same("windows(2)", x.windows(2), (1 << n) - 1);
        Due.same("chain()", x.chain(), n);
    }

    private static void imageHasAllThatWasTold() {
        NextDoorBrides x = street();
        Due.tell(x, 0, "goes 900; bears 1;");
        Due.tell(x, 1, "in 2 girl 0;");
        Due.tell(x, 2, "house 0 feud 1; house 1 feud 2;");
        Due.tell(x, 3, "house 2 side 1;");
        x.state(5);
        x.years(2);
        tellThoughts(x, 0);
        thoughtsAre(x, 2);
        String before = Seen.street(x);
        Due.yes("image(true)", x.image(true));
        x.child(-1);
        x.bought(-1, 0);
        x.dowry(-1);
        x.person(-10, 0);
        x.height(-1);
        tellThoughts(x, 2);
        thoughtsAre(x, 4);
        x.house(1, 1, 1);
        x.years(9);
        for (int k = 0; k < 4; k++) {
            x.text(k);
        }
        x.act(4, 3);
        Due.fault(x, 0, "goes 1 !", 1, 7);
        Due.feed(x, "goes 3;");
        Due.yes("image(false)", x.image(false));
        Due.same("as before", Seen.street(x), before);
        thoughtsAre(x, 2);
        Due.same("fault(0) is none of it", x.fault(0), 1);
        Due.same("fault(1) is none of it", x.fault(1), 7);
        Due.no("end(8)", x.end(8));
        Due.yes("end(7), the tape is none of it", x.end(7));
        Due.same("text(0)", x.text(0), 1);
        Due.same("of(0, 8)", x.of(0, 8), 3);
    }

    private static void imageMoreThanOnce() {
        NextDoorBrides x = street();
        x.state(12345);
        x.image(true);
        String before = Seen.street(x);
        x.years(5);
        String then = Seen.street(x);
        for (int i = 0; i < 3; i++) {
            Due.yes("image(false)", x.image(false));
            Due.same("as before", Seen.street(x), before);
            x.years(5);
            Due.same("all goes on as then", Seen.street(x), then);
        }
        x.image(true);
        x.house(1, 1, 1);
        x.image(false);
        Due.same("the later one", Seen.street(x), then);
    }

    private static void imageKeepsTheBook() {
        NextDoorBrides x = street();
        x.act(0, 0);
        x.image(true);
        x.undo();
        // another line is written over the one that was undone
        x.act(0, 1);
        Due.same("book(0, 2)", x.book(0, 2), 1);
        x.image(false);
        Due.same("book(0, 2)", x.book(0, 2), 0);
        Due.same("look(7)", x.look(7), 1);
        NextDoorBrides y = new NextDoorBrides();
        for (int i = 0; i < 16; i++) {
            y.house(9, 0, 0);
        }
        Due.tell(y, 0, "goes 0;");
        y.years(9);
        Due.same("look(7)", y.look(7), 135);
        y.image(true);
        String before = Seen.street(y);
        for (int i = 0; i < 6; i++) {
            y.undo();
        }
        y.set(0, 3, 0);
        y.years(9);
        Due.same("look(7), others in their place", y.look(7), 150);
        y.image(false);
        Due.same("a long book as before", Seen.street(y), before);
        NextDoorBrides z = street();
        z.image(true);
        Due.tell(z, 2, "house 0 feud 1; house 1 feud 2;");
        z.years(60);
        z.image(false);
        Due.same("look(7) of an empty book", z.look(7), 0);
    }

    private static void imageAndUndo() {
        NextDoorBrides x = street();
        x.years(2);
        x.image(true);
        Due.same("look(13)", x.look(13), 2);
        Due.yes("undo()", x.undo());
        x.image(false);
        Due.same("look(13)", x.look(13), 0);
        Due.same("look(6)", x.look(6), 2);
        Due.no("undo()", x.undo());
        x.years(1);
        Due.yes("undo()", x.undo());
        Due.same("look(6)", x.look(6), 2);
    }

    private static void imageOfNothing() {
        NextDoorBrides x = new NextDoorBrides();
        Due.no("image(false)", x.image(false));
        Due.yes("image(true)", x.image(true));
        x.house(1, 1, 1);
        x.moved(0, 1);
        x.moved(1, 0);
        Due.same("look(4)", x.look(4), 0);
        Due.yes("image(false)", x.image(false));
        Due.same("look(0)", x.look(0), 0);
        Due.same("look(4)", x.look(4), -1);
        Due.same("chain()", x.chain(), 0);
        Due.same("house", x.house(0, 0, 3), 0);
        Due.same("of(0, 0)", x.of(0, 0), 0);
        Due.same("look(4)", x.look(4), 0);
    }
}

/** The thoughts that hang on numbers alone (promises 15, 18, 26, 27, 30, 33): all inputs, or a wide net of them. */
public final class NumbersTest {
    private static NextDoorBrides latest = null;
    private static int calls = 0;
    private static final Plain Y = new Plain();
    private static final int[] FAR = {Integer.MIN_VALUE, Integer.MIN_VALUE + 1, -1000, -10, -2, 1000, 65536, 1 << 30, Integer.MAX_VALUE};

    private NumbersTest() {
    }

    public static void main(String[] args) {
        meets();
        siding();
        home();
        streets();
        order();
        game();
        Due.finish();
    }

    /** An object is used for 512 calls. */
    private static NextDoorBrides x() {
        if (calls % 512 == 0) {
            latest = new NextDoorBrides();
        }
        calls++;
        return latest;
    }

    private static void meet(int n, int k, int ab) {
        for (int what = -1; what <= 2; what++) {
            Due.same("meets(" + n + ", " + k + ", " + ab + ", " + what + ")", x().meets(n, k, ab, what), Y.meets(n, k, ab, what));
        }
    }

    private static void meets() {
        for (int n = 0; n <= 14; n++) {
            for (int k = -1; k <= 11; k++) {
                for (int a = 0; a <= n; a++) {
                    for (int b = 0; b <= n; b++) {
                        meet(n, k, 1000 * a + b);
                    }
                }
            }
        }
        for (int n = 490; n <= 502; n++) {
            for (int k = 1; k <= 9; k++) {
                for (int b = 0; b < 505; b += 7) {
                    meet(n, k, 1000 * (n - 3) + b);
                    meet(n, k, b);
                }
            }
        }
        for (int far : FAR) {
            meet(far, 1, 0);
            meet(10, far, 0);
            meet(10, 1, far);
            Due.same("meets(10, 1, 4, " + far + ")", x().meets(10, 1, 4, far), -1);
        }
        meet(10, 1, -1);
        meet(10, 1, -1000);
    }

    private static void side(int row) {
        for (int what = -1; what <= 3; what++) {
            Due.same("siding(" + row + ", " + what + ")", x().siding(row, what), Y.siding(row, what));
        }
    }

    private static void siding() {
        for (int row = -20; row < 20000; row++) {
            side(row);
        }
        for (int n = 1; n <= 9; n++) {
            for (int[] digits : Plain.rowsOf(Math.min(n, 7))) {
                int row = 1;
                for (int i = digits.length; i < n; i++) {
                    row = row * 10 + i;
                }
                for (int d : digits) {
                    row = row * 10 + d;
                }
                Due.same("siding(" + row + ", 0)", x().siding(row, 0), Y.siding(row, 0));
                Due.same("siding(" + row + ", 1)", x().siding(row, 1), Y.siding(row, 1));
            }
        }
        side(1876543210);
        side(1012345678);
        side(1012345679);
        side(2012345678);
        side(1999999999);
        for (int far : FAR) {
            side(far);
        }
        int[] rows = {10, 101, 1012, 10123, 101234, 1012345, 10123456, 101234567, 1012345678};
        int[] catalan = {1, 2, 5, 14, 42, 132, 429, 1430, 4862};
        for (int n = 0; n < 9; n++) {
            Due.same("siding(" + rows[n] + ", 2)", x().siding(rows[n], 2), catalan[n]);
        }
    }

    private static void home() {
        for (int n = -1; n <= 9; n++) {
            for (int i = -1; i <= n + 1; i++) {
                for (int ab = -12; ab <= 80; ab++) {
                    for (int what = -1; what <= 2; what++) {
                        Due.same("home(" + i + ", " + n + ", " + ab + ", " + what + ")", x().home(i, n, ab, what), Y.home(i, n, ab, what));
                    }
                }
            }
        }
        for (int far : FAR) {
            Due.same("home with " + far, x().home(far, 3, 12, 0), -1);
            Due.same("home with " + far, x().home(1, far, 12, 0), -1);
            Due.same("home with " + far, x().home(1, 3, far, 0), -1);
            Due.same("home with " + far, x().home(1, 3, 12, far), -1);
        }
    }

    private static void streets() {
        for (int n = -1; n <= 13; n++) {
            for (int k = -1; k <= 5; k++) {
                // four colours of twelve houses are too many to look at each
                boolean many = k == 4 && n > 10 || k == 3 && n > 12;
                for (int what = -1; what <= 2 && !many; what++) {
                    Due.same("streets(" + n + ", " + k + ", " + what + ")", x().streets(n, k, what), Y.streets(n, k, what));
                }
            }
        }
        Due.same("streets(12, 4, 0)", x().streets(12, 4, 0), 1398500);
        Due.same("streets(12, 4, 1)", x().streets(12, 4, 1), 704370);
        for (int far : FAR) {
            Due.same("streets with " + far, x().streets(far, 2, 0), -1);
            Due.same("streets with " + far, x().streets(2, far, 0), -1);
            Due.same("streets with " + far, x().streets(2, 2, far), -1);
        }
    }

    private static void order() {
        for (int n = -1; n <= 53; n++) {
            for (int i = -2; i <= n; i++) {
                for (int t = -1; t <= 10; t++) {
                    Due.same("order(" + n + ", " + i + ", " + t + ")", x().order(n, i, t), Y.order(n, i, t));
                }
                for (int t = 999; t <= 1001; t++) {
                    Due.same("order(" + n + ", " + i + ", " + t + ")", x().order(n, i, t), Y.order(n, i, t));
                }
            }
        }
        for (int far : FAR) {
            Due.same("order with " + far, x().order(far, 0, 0), -1);
            Due.same("order with " + far, x().order(5, far, 0), -1);
            Due.same("order with " + far, x().order(5, 2, far), far == 1000 ? Y.order(5, 2, 1000) : -1);
            Due.same("order(5, -1, " + far + ")", x().order(5, -1, far), 4);
        }
    }

    private static void game() {
        for (int n = -1; n <= 19; n++) {
            int step = n > 14 ? 7 : 1;
            for (int marks = -1; marks <= 1 << Math.max(0, n); marks += step) {
                Due.same("game(" + n + ", " + marks + ", 0)", x().game(n, marks, 0), Y.game(n, marks, 0));
                Due.same("game(" + n + ", " + marks + ", 1)", x().game(n, marks, 1), Y.game(n, marks, 1));
            }
        }
        for (int far : FAR) {
            Due.same("game with " + far, x().game(far, 0, 0), -1);
            Due.same("game with " + far, x().game(5, far, 0), -1);
            Due.same("game with " + far, x().game(5, 0, far), -1);
        }
        Due.same("game(5, 0, 2)", x().game(5, 0, 2), -1);
        Due.same("game(5, 0, -1)", x().game(5, 0, -1), -1);
    }
}

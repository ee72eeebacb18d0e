/** Streets with which a test begins, and numbers that no argument can be. */
final class Given {
    static final int FAR = Integer.MAX_VALUE;
    static final int LOW = Integer.MIN_VALUE;

    private Given() {
    }

    /** A street of houses, each told as girls, boys, dowry. */
    static NextDoorBrides street(int[]... houses) {
        NextDoorBrides x = new NextDoorBrides();
        for (int[] h : houses) {
            x.house(h[0], h[1], h[2]);
        }
        return x;
    }

    static int[] h(int girls, int boys, int dowry) {
        return new int[] {girls, boys, dowry};
    }

    /** So many houses that are all the same. */
    static NextDoorBrides houses(int n, int girls, int boys, int dowry) {
        NextDoorBrides x = new NextDoorBrides();
        for (int i = 0; i < n; i++) {
            x.house(girls, boys, dowry);
        }
        return x;
    }

    /** Generations go by, as many years() as it needs. */
    static void pass(NextDoorBrides x, int generations) {
        for (int left = generations; left > 0; left -= 60) {
            x.years(Math.min(left, 60));
        }
    }

    static void houseIs(NextDoorBrides x, int who, int... due) {
        for (int what = 0; what < due.length; what++) {
            Due.same("of(" + who + ", " + what + ")", x.of(who, what), due[what]);
        }
    }

    static void bookIs(NextDoorBrides x, int i, int... due) {
        for (int what = 0; what < 4; what++) {
            Due.same("book(" + i + ", " + what + ")", x.book(i, what), due[what]);
        }
    }
}

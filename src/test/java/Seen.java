/** All that can be seen of an object, as one text: two that are alike show that nothing has changed. */
final class Seen {
    private Seen() {
    }

    /** The street with its book and its texts, without what can be undone. */
    static String street(NextDoorBrides x) {
        StringBuilder all = new StringBuilder();
        for (int what = 0; what <= 12; what++) {
            put(all, x.look(what));
        }
        for (int who = 0; who < x.look(0); who++) {
            for (int what = 0; what <= 11; what++) {
                put(all, x.of(who, what));
            }
        }
        for (int i = 0; i < x.look(7); i++) {
            for (int what = 0; what <= 3; what++) {
                put(all, x.book(i, what));
            }
        }
        return all.toString();
    }

    /** What was told for thought. */
    static String thoughts(NextDoorBrides x) {
        StringBuilder all = new StringBuilder();
        put(all, x.planned(0));
        put(all, x.planned(1));
        for (int n = 2; n <= 9; n++) {
            put(all, x.rows(n, 0));
            put(all, x.rows(n, 1));
        }
        for (int what = 0; what <= 10; what++) {
            put(all, x.pushed(what));
        }
        for (int i = 0; i < 14; i++) {
            put(all, x.akin(i, i, 0));
            put(all, x.akin(i, i - 1, 1));
        }
        for (int what = 0; what <= 2; what++) {
            put(all, x.windows(what));
        }
        put(all, x.chain());
        return all.toString();
    }

    /** Both, with what can be undone and the latest fault. */
    static String all(NextDoorBrides x) {
        return street(x) + thoughts(x) + x.look(13) + ' ' + x.fault(0) + ' ' + x.fault(1);
    }

    private static void put(StringBuilder all, int v) {
        all.append(v).append(' ');
    }
}

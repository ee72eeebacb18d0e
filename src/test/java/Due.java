/** What a test is due: counts and prints every answer that is another one. */
final class Due {
    private static int asked = 0;
    private static int wrong = 0;
    private static int sentences = 0;
    private static String sentence = "";

    private Due() {
    }

    /** The document's own words that the answers from here on hold to. */
    static void says(String words) {
        sentences++;
        sentence = "'" + words + "': ";
    }

    /** Where the document leaves a choice: how it was read. */
    static void reads(String words) {
        sentences++;
        sentence = "read as: " + words + ": ";
    }

    static void same(String call, long got, long want) {
        asked++;
        if (got != want) {
            wrong++;
            if (wrong <= 50) {
                System.out.println(sentence + call + " answered " + got + ", due is " + want);
            }
        }
    }

    static void same(String call, String got, String want) {
        asked++;
        if (!got.equals(want)) {
            wrong++;
            if (wrong <= 50) {
                System.out.println(sentence + call + " answered " + got + ", due is " + want);
            }
        }
    }

    static void yes(String call, boolean got) {
        same(call, got ? 1 : 0, 1);
    }

    static void no(String call, boolean got) {
        same(call, got ? 1 : 0, 0);
    }

    static int wrong() {
        return wrong;
    }

    /** Puts a text on the tape and cuts off the blanks behind it. */
    static void feed(NextDoorBrides x, String text) {
        StringBuilder padded = new StringBuilder(text);
        while (padded.length() % 20 != 0) {
            padded.append(' ');
        }
        for (int i = 0; i < padded.length(); i += 20) {
            x.feed(four(padded, i), four(padded, i + 4), four(padded, i + 8), four(padded, i + 12), four(padded, i + 16));
        }
        x.end(text.length());
    }

    static int tell(NextDoorBrides x, int k, String text) {
        feed(x, text);
        return x.text(k);
    }

    /** A text that must have this fault at this place. */
    static void fault(NextDoorBrides x, int k, String text, int kind, int place) {
        same("text(" + k + ") of '" + text + "'", tell(x, k, text), -1);
        same("fault(0) of '" + text + "'", x.fault(0), kind);
        same("fault(1) of '" + text + "'", x.fault(1), place);
    }

    /** A text that must have no fault and so many lines. */
    static void lines(NextDoorBrides x, int k, String text, int lines) {
        same("text(" + k + ") of '" + text + "'", tell(x, k, text), lines);
        same("fault(0) of '" + text + "'", x.fault(0), 0);
        same("fault(1) of '" + text + "'", x.fault(1), -1);
    }

    static int four(CharSequence text, int from) {
        return text.charAt(from) << 24 | text.charAt(from + 1) << 16 | text.charAt(from + 2) << 8 | text.charAt(from + 3);
    }

    static void finish() {
        String under = sentences > 0 ? " under " + sentences + " sentences" : "";
        System.out.println(asked + " answers" + under + ", " + wrong + " not as due");
        if (wrong != 0) {
            System.exit(1);
        }
    }
}

import java.util.Arrays;

/**
 * A street in which a girl marries the son of the next house and no other: its law, plans, feuds
 * and sides are told as texts, its generations go by draws or in thought, and what was done can be undone.
 */
public final class NextDoorBrides {
    /** None. */
    public static final int NONE = -1;

    private static final int MOST_HOUSES = 16;
    private static final int MOST_PEOPLE = 9;
    private static final int MOST_GENERATION = 9999;
    private static final int MOST_YEARS = 60;
    private static final int MOST_TAPE = 400;
    private static final int MOST_LINES = 16;
    private static final int MOST_BOOK = 150;
    private static final int MOST_UNDONE = 6;

    /* What stands of each house, by the numbers that set() and of() take. */
    private static final int GIRLS = 0;
    private static final int BOYS = 1;
    private static final int DOWRY = 2;
    private static final int COUPLES = 3;
    private static final int WIDOW = 4;
    private static final int LINEN = 5;
    private static final int CELLS = 6;
    private static final int[] MOST_OF = {9, 9, 9999, 9, 1};

    /* The texts, by the numbers that text() takes. */
    private static final int LAW = 0;
    private static final int PLANS = 1;
    private static final int FEUDS = 2;
    private static final int SIDES = 3;

    /* What the law can be asked: the first keywords of its text. */
    private static final int GOES = 0;
    private static final int BEARS = 1;
    private static final int BRINGS = 2;

    /* Four numbers stand for a line of the law, of the plans and of the book. */
    private static final int LINE = 4;

    /* The law's code: numbers stand for themselves, a sign for less than nothing by itself. */
    private static final int CODE_NOT = -2;
    private static final int CODE_AND = -3;
    private static final int CODE_OR = -4;
    private static final int CODE_NAME = -100;

    private final Street street;
    private final Rules rules;
    private final int[] pages;
    private final Told told;
    private final Past past;
    private final Reader reader;
    private final Walk walk;
    private final Street dreamt;
    private final Walk dream;
    private final Thoughts thoughts;
    private Picture picture;

    public NextDoorBrides() {
        street = new Street();
        rules = new Rules();
        pages = new int[MOST_BOOK * LINE];
        told = new Told();
        past = new Past();
        reader = new Reader();
        walk = new Walk(street, rules, pages, false);
        dreamt = new Street();
        dream = new Walk(dreamt, rules, pages, true);
        thoughts = new Thoughts(told);
        picture = null;
    }

    public int state(int v) {
        int was = street.luck;
        street.luck = v;
        past.forget();
        return was;
    }

    public int house(int girls, int boys, int dowry) {
        int number = street.build(girls, boys, dowry);
        if (number != NONE) {
            past.forget();
        }
        return number;
    }

    public boolean set(int what, int who, int v) {
        if (!street.has(who) || !canBe(what, v)) {
            return false;
        }
        street.put(who, what, v);
        past.forget();
        return true;
    }

    public boolean act(int what, int who) {
        if (!walk.canByHand(what, who)) {
            return false;
        }
        past.keep(street);
        walk.doByHand(what, who);
        return true;
    }

    public int years(int n) {
        if (n < 1 || n > MOST_YEARS || street.generation + n > MOST_GENERATION) {
            return NONE;
        }
        int before = street.weddings;
        for (int year = 0; year < n; year++) {
            past.keep(street);
            walk.pass();
        }
        return street.weddings - before;
    }

    public int feed(int a, int b, int c, int d, int e) {
        if (!reader.hasRoom(20)) {
            return NONE;
        }
        reader.take(a);
        reader.take(b);
        reader.take(c);
        reader.take(d);
        return reader.take(e);
    }

    public boolean end(int n) {
        return reader.cut(n);
    }

    public int text(int k) {
        int lines = reader.read(k, street.count);
        if (lines != NONE) {
            rules.take(k, reader.draft);
            if (k != LAW) {
                past.forget();
            }
        }
        return lines;
    }

    public int fault(int what) {
        switch (what) {
            case 0: return reader.faultKind;
            case 1: return reader.faultPlace;
            default: return NONE;
        }
    }

    public int of(int house, int what) {
        if (!street.has(house)) {
            return NONE - 1;
        }
        switch (what) {
            case GIRLS:
            case BOYS:
            case DOWRY:
            case COUPLES:
            case WIDOW:
            case LINEN: return street.get(house, what);
            case 6: return rules.sideOf(house);
            case 7: return walk.nextOf(house);
            case 8: return walk.ask(GOES, house);
            case 9: return walk.ask(BEARS, house);
            case 10: return walk.ask(BRINGS, house);
            case 11: return rules.feudsOf(house);
            default: return NONE - 1;
        }
    }

    public int book(int i, int what) {
        if (i < 0 || i >= street.lines || what < 0 || what >= LINE) {
            return NONE;
        }
        return pages[i * LINE + what];
    }

    public int goes(int n, int what) {
        if (n < 1 || n > MOST_YEARS || what < 0 || what > 3) {
            return NONE;
        }
        dreamt.copy(street);
        for (int year = 0; year < n; year++) {
            dream.pass();
        }
        switch (what) {
            case 0: return dreamt.weddings;
            case 1: return dreamt.gone;
            case 2: return dreamt.gaps;
            default: return dreamt.dowries();
        }
    }

    public int jug(int house) {
        if (!street.has(house)) {
            return NONE;
        }
        dreamt.copy(street);
        for (int year = 0; year < MOST_YEARS && dreamt.jugAt != house; year++) {
            dream.pass();
        }
        return dreamt.jugAt == house ? dreamt.generation - street.generation : NONE;
    }

    public int meets(int n, int k, int ab, int what) {
        int a = ab / 1000;
        int b = ab % 1000;
        boolean can = n >= 2 && n <= 500 && k >= 1 && k <= 9 && ab >= 0 && a < n && b < n;
        if (!can || what < 0 || what > 1) {
            return NONE;
        }
        int apart = Math.floorMod(b - a, n);
        return what == 0 ? Numbers.meetsBehind(n, k, apart) : Numbers.passesFirst(n, k, apart);
    }

    public int child(int v) {
        return told.children.tell(v, 0, 1);
    }

    public int planned(int what) {
        switch (what) {
            case 0: return thoughts.changesForNoGirlsTogether();
            case 1: return thoughts.changesForTurns();
            default: return NONE;
        }
    }

    public int siding(int row, int what) {
        int n = Numbers.wagons(row);
        if (n == NONE) {
            return NONE;
        }
        switch (what) {
            case 0: return Numbers.mostInSiding(row, n) == NONE ? 0 : 1;
            case 1: return Numbers.mostInSiding(row, n);
            case 2: return Numbers.rowsThatGo(n);
            default: return NONE;
        }
    }

    public int bought(int a, int b) {
        if (a == NONE) {
            return told.couples.clear();
        }
        boolean can = a >= 0 && a <= 8 && b >= 0 && b <= 8 && a != b;
        return can ? told.couples.add(a * Told.PAIR + b) : NONE;
    }

    public int rows(int n, int what) {
        if (n < 2 || n > 9) {
            return NONE;
        }
        switch (what) {
            case 0: return thoughts.rowsSideBySide(n);
            case 1: return thoughts.rowsBehind(n);
            default: return NONE;
        }
    }

    public int dowry(int v) {
        return told.dowries.tell(v, 0, 60);
    }

    public int pushed(int what) {
        if (what < 0 || what > told.dowries.size) {
            return NONE;
        }
        int times = thoughts.pushAll();
        return what == 0 ? times : thoughts.leftWith(what - 1);
    }

    public int feuds(int what) {
        switch (what) {
            case 0: return rules.kings(street.count);
            case 1: return rules.longestRow(street.count);
            default: return NONE;
        }
    }

    public int person(int a, int b) {
        if (a == NONE - 9) {
            return told.persons.clear();
        }
        int size = told.persons.size;
        boolean orphan = a == NONE && b == NONE;
        boolean born = a >= 0 && a < size && b >= 0 && b < size && a != b;
        if (!orphan && !born) {
            return NONE;
        }
        int many = told.persons.add(orphan ? NONE : a * Told.PAIR + b);
        return many == NONE ? NONE : many - 1;
    }

    public int akin(int i, int j, int what) {
        int size = told.persons.size;
        if (i < 0 || i >= size || j < 0 || j >= size || what < 0 || what > 1) {
            return NONE;
        }
        int part = thoughts.kinship(Math.max(i, j), Math.min(i, j));
        return Numbers.lowest(part, Thoughts.WHOLE, what);
    }

    public int home(int i, int n, int ab, int what) {
        int a = ab / 10;
        int b = ab % 10;
        boolean can = n >= 1 && n <= 8 && i >= 0 && i <= n && a >= 1 && a <= 5 && b >= 2 && b <= 6 && a < b;
        if (!can || what < 0 || what > 1) {
            return NONE;
        }
        int reached = Numbers.weight(i, n, a, b - a);
        int whole = Numbers.weight(n, n, a, b - a);
        return Numbers.lowest(reached, whole, what);
    }

    public int streets(int n, int k, int what) {
        if (n < 1 || n > 12 || k < 1 || k > 4) {
            return NONE;
        }
        switch (what) {
            case 0: return Numbers.sameTurned(n, k) / n;
            case 1: return (Numbers.sameTurned(n, k) + Numbers.sameFromBehind(n, k)) / (2 * n);
            default: return NONE;
        }
    }

    public boolean moved(int a, int b) {
        boolean can = a >= 0 && a <= 9 && b >= NONE - 1 && b <= 9 && a != b;
        if (can) {
            told.wants[a] = b;
        }
        return can;
    }

    public int chain() {
        return thoughts.mostThatMove();
    }

    public int order(int n, int i, int t) {
        if (n < 1 || n > 52) {
            return NONE;
        }
        if (i == NONE) {
            return Numbers.inOrderBehind(n);
        }
        boolean can = i >= 0 && i < n && t >= 0 && t <= 1000;
        return can ? Numbers.placeBehind(n, i, t) : NONE;
    }

    public int height(int v) {
        return told.heights.tell(v, 1, 60);
    }

    public int windows(int what) {
        switch (what) {
            case 0: return thoughts.couplesThatSee();
            case 1: return thoughts.mostSeen();
            case 2: return thoughts.rising();
            default: return NONE;
        }
    }

    public int game(int n, int marks, int what) {
        boolean can = n >= 1 && n <= 18 && marks >= 0 && marks < 1 << n && !Thoughts.threeTogether(marks);
        if (!can || what < 0 || what > 1) {
            return NONE;
        }
        int door = thoughts.leastWinningDoor(n, marks);
        if (what == 1) {
            return door;
        }
        return door == NONE ? 0 : 1;
    }

    public boolean undo() {
        return past.goBack(street);
    }

    public boolean image(boolean taken) {
        if (taken) {
            if (picture == null) {
                picture = new Picture();
            }
            picture.take(street, rules, pages, told);
            return true;
        }
        if (picture == null) {
            return false;
        }
        picture.give(street, rules, pages, told);
        past.forget();
        return true;
    }

    public int look(int what) {
        switch (what) {
            case 0: return street.count;
            case 1: return street.weddings;
            case 2: return street.gone;
            case 3: return street.gaps;
            case 4: return street.jugAt;
            case 5: return street.widows();
            case 6: return street.generation;
            case 7: return street.lines;
            case 8: return street.luck;
            case 9:
            case 10:
            case 11:
            case 12: return rules.linesOf(what - 9);
            case 13: return past.size;
            default: return NONE - 99999;
        }
    }

    private static boolean canBe(int what, int v) {
        return what >= 0 && what < MOST_OF.length && v >= 0 && v <= MOST_OF[what];
    }

    /** Numbers in a row, of which only so many can be held. */
    private static final class Row {
        private final int[] items;
        private int size;

        Row(int most) {
            items = new int[Math.max(most, 0)];
            size = 0;
        }

        /** How many there are then; NONE if there is no room. */
        int add(int v) {
            if (size >= items.length) {
                return NONE;
            }
            items[size] = v;
            size++;
            return size;
        }

        int clear() {
            size = 0;
            return size;
        }

        /** Adds a number within bounds, or clears the row for NONE: how many there are then. */
        int tell(int v, int least, int most) {
            if (v == NONE) {
                return clear();
            }
            return v < least || v > most ? NONE : add(v);
        }

        int at(int i) {
            return i >= 0 && i < size ? items[i] : NONE;
        }

        void copy(Row other) {
            size = Math.min(other.size, items.length);
            System.arraycopy(other.items, 0, items, 0, size);
        }
    }

    /** The houses and all that changes while generations go by, but for the pages of the book. */
    private static final class Street {
        private final int[] cells;
        private int count;
        private int jugAt;
        private int gone;
        private int gaps;
        private int weddings;
        private int generation;
        private int luck;
        /* Lines of the book are only ever put behind one another: to undo, their number is enough. */
        private int lines;

        Street() {
            cells = new int[MOST_HOUSES * CELLS];
            jugAt = NONE;
        }

        boolean has(int who) {
            return who >= 0 && who < count;
        }

        int build(int girls, int boys, int dowry) {
            if (count >= MOST_HOUSES || !canBe(GIRLS, girls) || !canBe(BOYS, boys) || !canBe(DOWRY, dowry)) {
                return NONE;
            }
            int number = count;
            count++;
            put(number, GIRLS, girls);
            put(number, BOYS, boys);
            put(number, DOWRY, dowry);
            put(number, COUPLES, 0);
            put(number, WIDOW, 0);
            put(number, LINEN, number);
            if (number == 0) {
                jugAt = 0;
            }
            return number;
        }

        int get(int who, int what) {
            boolean stands = who >= 0 && who < count && what >= 0 && what < CELLS;
            return stands ? cells[who * CELLS + what] : NONE;
        }

        void put(int who, int what, int v) {
            if (who >= 0 && who < count && what >= 0 && what < CELLS) {
                cells[who * CELLS + what] = v;
            }
        }

        /** So much more (or less), but never above what there can be. */
        void add(int who, int what, int n) {
            if (what >= 0 && what < MOST_OF.length) {
                put(who, what, Math.min(get(who, what) + n, MOST_OF[what]));
            }
        }

        int draw(int m) {
            luck = 1664525 * luck + 1013904223;
            return m > 0 ? (luck >>> 8) % m : 0;
        }

        int widows() {
            int set = 0;
            for (int who = 0; who < count; who++) {
                if (get(who, WIDOW) == 1) {
                    set |= 1 << who;
                }
            }
            return set;
        }

        int dowries() {
            int sum = 0;
            for (int who = 0; who < count; who++) {
                sum += get(who, DOWRY);
            }
            return sum;
        }

        void copy(Street other) {
            System.arraycopy(other.cells, 0, cells, 0, cells.length);
            count = other.count;
            jugAt = other.jugAt;
            gone = other.gone;
            gaps = other.gaps;
            weddings = other.weddings;
            generation = other.generation;
            luck = other.luck;
            lines = other.lines;
        }
    }

    /** What the four texts tell. */
    private static final class Rules {
        /* LONGEST asks the first houses alone. */
        private static final int ROW_HOUSES = 12;

        /* A line of the law: its word, and where in the code its E and its B begin and all ends. */
        private final Row laws;
        private final Row code;
        /* A line of the plans: generation, what, house, how much. */
        private final Row plans;
        private final int[] feudsWith;
        private int feudLines;
        private int secondSide;
        private int sideLines;

        Rules() {
            laws = new Row(MOST_LINES * LINE);
            code = new Row(MOST_TAPE);
            plans = new Row(MOST_LINES * LINE);
            feudsWith = new int[MOST_HOUSES];
        }

        void empty(int k) {
            switch (k) {
                case LAW:
                    laws.clear();
                    code.clear();
                    break;
                case PLANS:
                    plans.clear();
                    break;
                case FEUDS:
                    Arrays.fill(feudsWith, 0);
                    feudLines = 0;
                    break;
                default:
                    secondSide = 0;
                    sideLines = 0;
                    break;
            }
        }

        void take(int k, Rules other) {
            switch (k) {
                case LAW:
                    laws.copy(other.laws);
                    code.copy(other.code);
                    break;
                case PLANS:
                    plans.copy(other.plans);
                    break;
                case FEUDS:
                    System.arraycopy(other.feudsWith, 0, feudsWith, 0, feudsWith.length);
                    feudLines = other.feudLines;
                    break;
                default:
                    secondSide = other.secondSide;
                    sideLines = other.sideLines;
                    break;
            }
        }

        void copy(Rules other) {
            for (int k = LAW; k <= SIDES; k++) {
                take(k, other);
            }
        }

        int linesOf(int k) {
            switch (k) {
                case LAW: return laws.size / LINE;
                case PLANS: return plans.size / LINE;
                case FEUDS: return feudLines;
                default: return sideLines;
            }
        }

        void addLaw(int word, int value, int condition, int end) {
            laws.add(word);
            laws.add(value);
            laws.add(condition);
            laws.add(end);
        }

        void addPlan(int generation, int what, int who, int n) {
            plans.add(generation);
            plans.add(what);
            plans.add(who);
            plans.add(n);
        }

        void addFeud(int who, int with) {
            if (who >= 0 && who < MOST_HOUSES) {
                feudsWith[who] |= 1 << with;
                feudLines++;
            }
        }

        void addSide(int who, int n) {
            secondSide &= ~(1 << who);
            secondSide |= n << who;
            sideLines++;
        }

        int sideOf(int who) {
            return secondSide >> who & 1;
        }

        int feudsOf(int who) {
            return who >= 0 && who < MOST_HOUSES ? feudsWith[who] : 0;
        }

        boolean feud(int a, int b) {
            return (feudsOf(a) >> b & 1) == 1 || (feudsOf(b) >> a & 1) == 1;
        }

        /** Those above whom a house stands: it has a feud with them, and they have none with it. */
        private int below(int who) {
            int set = 0;
            for (int other = 0; other < MOST_HOUSES; other++) {
                if ((feudsOf(who) >> other & 1) == 1 && (feudsOf(other) >> who & 1) == 0) {
                    set |= 1 << other;
                }
            }
            return set;
        }

        int kings(int count) {
            int set = 0;
            for (int who = 0; who < count; who++) {
                int under = below(who);
                int reached = under | 1 << who;
                for (int other = 0; other < count; other++) {
                    if ((under >> other & 1) == 1) {
                        reached |= below(other);
                    }
                }
                if (reached == (1 << count) - 1) {
                    set |= 1 << who;
                }
            }
            return set;
        }

        int longestRow(int count) {
            int houses = Math.min(count, ROW_HOUSES);
            int longest = 0;
            for (int who = 0; who < houses; who++) {
                longest = Math.max(longest, longestFrom(this, who, 1 << who, 1));
            }
            return longest;
        }

        /** How long a row gets that has so many houses already, the last of them who. */
        private static int longestFrom(Rules rules, int who, int used, int many) {
            int longest = many;
            if (many >= ROW_HOUSES) {
                return longest;
            }
            int open = rules.below(who) & ~used;
            for (int next = 0; next < ROW_HOUSES; next++) {
                if ((open >> next & 1) == 1) {
                    longest = Math.max(longest, longestFrom(rules, next, used | 1 << next, many + 1));
                }
            }
            return longest;
        }
    }

    /** The tape, and how it is read as a text: into a draft, which counts only without a fault. */
    private static final class Reader {
        private static final int END = 0;
        private static final int WORD = 1;
        private static final int NUMBER = 2;
        private static final int SIGN = 3;
        private static final int OTHER = 4;
        private static final int BLANK = 5;

        private static final String SIGNS = ";+-*/()<=>";
        private static final String LAW_WORDS =
            "goes bears brings when or and not girls boys couples dowry widow number side jug gaps generation";
        private static final String PLAN_WORDS = "in girl boy widow comfort give jug";
        private static final String FEUD_WORDS = "house feud";
        private static final String SIDE_WORDS = "house side";
        private static final int WHEN = 3;
        private static final int OR = 4;
        private static final int AND = 5;
        private static final int NOT = 6;
        private static final int FIRST_NAME = 7;
        private static final int GIVE = 5;
        private static final int MOST_OPEN = 8;
        private static final int MOST_DIGITS = 4;

        private final Rules draft;
        private final int[] tape;
        private int size;
        private int faultKind;
        private int faultPlace;
        private String words;
        private int houses;
        /* All tokens of the tape, the end as the last one: what each is, its value, and where it begins. */
        private final int[] kinds;
        private final int[] values;
        private final int[] places;
        private int tokens;
        /* The token that is looked at, and which comes next. */
        private int kind;
        private int value;
        private int place;
        private int next;

        Reader() {
            draft = new Rules();
            tape = new int[MOST_TAPE];
            kinds = new int[MOST_TAPE + 1];
            values = new int[MOST_TAPE + 1];
            places = new int[MOST_TAPE + 1];
            faultPlace = NONE;
            words = LAW_WORDS;
        }

        boolean hasRoom(int bytes) {
            return size + bytes <= MOST_TAPE;
        }

        /** Four bytes come behind the tape, the highest first: how many it has. */
        int take(int four) {
            for (int shift = 24; shift >= 0; shift -= 8) {
                if (size < MOST_TAPE) {
                    tape[size] = four >>> shift & 255;
                    size++;
                }
            }
            return size;
        }

        boolean cut(int n) {
            if (n < 0 || n > size) {
                return false;
            }
            size = n;
            return true;
        }

        /** How many lines the tape has as text k; NONE with a fault. The tape is empty then. */
        int read(int k, int count) {
            faultKind = 0;
            faultPlace = NONE;
            boolean well = k >= LAW && k <= SIDES;
            if (well) {
                words = wordsOf(k);
                houses = count;
                draft.empty(k);
                findTokens();
                advance();
                // one line too many is read as well: it is what finds its own fault
                for (int line = 0; line <= MOST_LINES && well && kind != END; line++) {
                    well = readLine(k, line);
                }
            }
            size = 0;
            return well ? draft.linesOf(k) : NONE;
        }

        private static String wordsOf(int k) {
            switch (k) {
                case LAW: return LAW_WORDS;
                case PLANS: return PLAN_WORDS;
                case FEUDS: return FEUD_WORDS;
                default: return SIDE_WORDS;
            }
        }

        private boolean readLine(int k, int line) {
            int last = k == LAW ? BRINGS : 0;
            if (kind != WORD || value > last) {
                return refuse(1);
            }
            if (line >= MOST_LINES) {
                return refuse(3);
            }
            int word = value;
            advance();
            switch (k) {
                case LAW: return readLaw(word) && readSign(';');
                case PLANS: return readPlan() && readSign(';');
                case FEUDS: return readFeud() && readSign(';');
                default: return readSide() && readSign(';');
            }
        }

        private boolean readLaw(int word) {
            int start = draft.code.size;
            if (!readSum()) {
                return false;
            }
            int condition = draft.code.size;
            if (isWord(WHEN)) {
                advance();
                if (!readEither(0)) {
                    return false;
                }
            }
            draft.addLaw(word, start, condition, draft.code.size);
            return true;
        }

        private boolean readPlan() {
            int generation = value;
            if (!readNumber(0, 999, NONE)) {
                return false;
            }
            int what = value;
            if (kind != WORD || what == 0) {
                return refuse(1);
            }
            advance();
            int who = value;
            if (!readNumber(0, houses - 1, NONE)) {
                return false;
            }
            int n = value;
            if (what == GIVE && !readNumber(1, 999, NONE)) {
                return false;
            }
            draft.addPlan(generation, what, who, n);
            return true;
        }

        private boolean readFeud() {
            int who = value;
            if (!readNumber(0, houses - 1, NONE) || !readSecondWord()) {
                return false;
            }
            int with = value;
            if (!readNumber(0, houses - 1, who)) {
                return false;
            }
            draft.addFeud(who, with);
            return true;
        }

        private boolean readSide() {
            int who = value;
            if (!readNumber(0, houses - 1, NONE) || !readSecondWord()) {
                return false;
            }
            int n = value;
            if (!readNumber(0, 1, NONE)) {
                return false;
            }
            draft.addSide(who, n);
            return true;
        }

        /** The word in the middle of a line: feud or side, the second one of its text. */
        private boolean readSecondWord() {
            if (!isWord(1)) {
                return refuse(1);
            }
            advance();
            return true;
        }

        /** A number within bounds and unlike another one. */
        private boolean readNumber(int least, int most, int unlike) {
            if (kind != NUMBER) {
                return refuse(1);
            }
            if (value < least || value > most || value == unlike) {
                return refuse(2);
            }
            advance();
            return true;
        }

        private boolean readSign(int sign) {
            if (!isSign(sign)) {
                return refuse(1);
            }
            advance();
            return true;
        }

        /** B, with so many brackets and nots open: as a sum, or joins what and has joined before. */
        private boolean readEither(int open) {
            boolean or = false;
            boolean and = false;
            for (int n = 0; n < MOST_TAPE; n++) {
                if (!readCondition(open)) {
                    return false;
                }
                if (and) {
                    draft.code.add(CODE_AND);
                }
                and = isWord(AND);
                if (!and) {
                    if (or) {
                        draft.code.add(CODE_OR);
                    }
                    or = isWord(OR);
                    if (!or) {
                        return true;
                    }
                }
                advance();
            }
            return refuse(1);
        }

        /** C: what is opened in it is closed again at its end. */
        private boolean readCondition(int open) {
            if (isSign('(')) {
                return mayOpen(open) && readEither(open + 1) && readSign(')');
            }
            if (isWord(NOT)) {
                boolean inner = mayOpen(open) && readCondition(open + 1);
                draft.code.add(CODE_NOT);
                return inner;
            }
            if (!readSum()) {
                return false;
            }
            int sign = value;
            if (!isSign('<') && !isSign('=') && !isSign('>')) {
                return refuse(1);
            }
            advance();
            boolean well = readSum();
            draft.code.add(-sign);
            return well;
        }

        private boolean mayOpen(int open) {
            if (open >= MOST_OPEN) {
                return refuse(3);
            }
            advance();
            return true;
        }

        /** E, put into the code so that each sign stands behind its two sides. */
        private boolean readSum() {
            int plus = 0;
            int times = 0;
            for (int n = 0; n < MOST_TAPE; n++) {
                boolean name = kind == WORD && value >= FIRST_NAME && times != '/';
                if (kind != NUMBER && !name) {
                    return refuse(1);
                }
                if (times == '/' && value == 0) {
                    return refuse(2);
                }
                draft.code.add(name ? CODE_NAME - value : value);
                advance();
                if (times != 0) {
                    draft.code.add(-times);
                }
                times = isSign('*') || isSign('/') ? value : 0;
                if (times == 0) {
                    if (plus != 0) {
                        draft.code.add(-plus);
                    }
                    plus = isSign('+') || isSign('-') ? value : 0;
                    if (plus == 0) {
                        return true;
                    }
                }
                advance();
            }
            return refuse(1);
        }

        private boolean isWord(int word) {
            return kind == WORD && value == word;
        }

        private boolean isSign(int sign) {
            return kind == SIGN && value == sign;
        }

        /** A fault at the token that is looked at. */
        private boolean refuse(int fault) {
            faultKind = fault;
            faultPlace = place;
            return false;
        }

        /** The next token is looked at; behind the end it stays. */
        private void advance() {
            if (next < tokens && next < kinds.length) {
                kind = kinds[next];
                value = values[next];
                place = places[next];
                next++;
            }
        }

        /* All are found before the first one is read: so the calls of the reading stay few deep. */
        private void findTokens() {
            tokens = 0;
            next = 0;
            for (int at = 0; at < size; at++) {
                int sort = sortOf(tape[at]);
                boolean goesOn = standsTogether(sort) && at > 0 && sortOf(tape[at - 1]) == sort;
                if (sort != BLANK && !goesOn) {
                    findToken(at, sort);
                }
            }
            addToken(END, 0, size);
        }

        private void findToken(int from, int sort) {
            int to = from + 1;
            while (to < size && standsTogether(sort) && sortOf(tape[to]) == sort) {
                to++;
            }
            int worth = tape[from];
            if (sort == WORD) {
                worth = wordNumber(from, to);
            } else if (sort == NUMBER) {
                worth = numberOf(from, to);
            }
            addToken(worth == NONE ? OTHER : sort, worth, from);
        }

        private void addToken(int sort, int worth, int at) {
            if (tokens < kinds.length) {
                kinds[tokens] = sort;
                values[tokens] = worth;
                places[tokens] = at;
                tokens++;
            }
        }

        /** Which of the text's keywords the letters between are; NONE: none. */
        private int wordNumber(int from, int to) {
            int number = 0;
            int at = from;
            boolean same = true;
            for (int i = 0; i < words.length(); i++) {
                if (words.charAt(i) != ' ') {
                    same = same && at < to && tape[at] == words.charAt(i);
                    at++;
                } else if (same && at == to) {
                    return number;
                } else {
                    number++;
                    at = from;
                    same = true;
                }
            }
            return same && at == to ? number : NONE;
        }

        /** The number that the digits between are; NONE: too many of them. */
        private int numberOf(int from, int to) {
            if (to - from > MOST_DIGITS) {
                return NONE;
            }
            int number = 0;
            for (int at = from; at < to; at++) {
                number = number * 10 + tape[at] - '0';
            }
            return number;
        }

        /** Letters and digits are one token as many as stand together; others are one each. */
        private static boolean standsTogether(int sort) {
            return sort == WORD || sort == NUMBER;
        }

        /** What a token is, of which this sign is a part; a blank is part of none. */
        private static int sortOf(int sign) {
            if (sign >= 'a' && sign <= 'z' || sign >= 'A' && sign <= 'Z') {
                return WORD;
            }
            if (sign >= '0' && sign <= '9') {
                return NUMBER;
            }
            if (sign == ' ' || sign == '\n') {
                return BLANK;
            }
            return SIGNS.indexOf((char) sign) < 0 ? OTHER : SIGN;
        }
    }

    /** How generations go by in a street: by draws and with a book, or in thought. */
    private static final class Walk {
        /* What the book tells. */
        private static final int WEDDING = 0;
        private static final int SEA = 1;
        private static final int GAP = 2;
        private static final int CHILDREN = 3;
        private static final int WIDOWED = 4;

        /* Far more than eight open brackets can make stand at once. */
        private static final int MOST_STACK = 48;

        private final Street street;
        private final Rules rules;
        private final int[] pages;
        private final boolean thought;
        private final int[] stack;
        /* The houses to which somebody came in this generation, as a set. */
        private int came;

        Walk(Street street, Rules rules, int[] pages, boolean thought) {
            this.street = street;
            this.rules = rules;
            this.pages = pages;
            this.thought = thought;
            stack = new int[MOST_STACK];
        }

        void pass() {
            carryOutPlans();
            came = 0;
            for (int who = 0; who < street.count; who++) {
                if (street.get(who, GIRLS) > 0) {
                    lookForHusband(who);
                }
            }
            for (int who = 0; who < street.count; who++) {
                bear(who);
            }
            for (int who = 0; who < street.count; who++) {
                beWidowed(who);
            }
            street.generation++;
        }

        boolean canByHand(int what, int who) {
            if (!street.has(who)) {
                return false;
            }
            switch (what) {
                case 0: return street.get(who, GIRLS) > 0 && canGo(who, nextOf(who));
                case 1: return street.get(who, GIRLS) < MOST_PEOPLE;
                case 2: return street.get(who, BOYS) < MOST_PEOPLE;
                case 3: return street.get(who, WIDOW) == 1;
                case 4: return street.jugAt != who;
                default: return false;
            }
        }

        void doByHand(int what, int who) {
            switch (what) {
                case 0:
                    wed(who, nextOf(who));
                    break;
                case 1:
                    street.add(who, GIRLS, 1);
                    break;
                case 2:
                    street.add(who, BOYS, 1);
                    break;
                case 3:
                    street.put(who, WIDOW, 0);
                    break;
                default:
                    street.jugAt = who;
                    break;
            }
        }

        /** The house to which a girl goes from here; NONE: the sea. */
        int nextOf(int who) {
            int side = rules.sideOf(who);
            int step = side == 0 ? 1 : -1;
            for (int to = who + step; to >= 0 && to < street.count; to += step) {
                if (rules.sideOf(to) == side) {
                    return to;
                }
            }
            return NONE;
        }

        private void carryOutPlans() {
            int size = rules.plans.size;
            for (int i = 0; i < size; i += LINE) {
                if (rules.plans.at(i) == street.generation) {
                    carryOut(rules.plans.at(i + 1), rules.plans.at(i + 2), rules.plans.at(i + 3));
                }
            }
        }

        private void carryOut(int what, int who, int n) {
            switch (what) {
                case 1:
                    street.add(who, GIRLS, 1);
                    break;
                case 2:
                    street.add(who, BOYS, 1);
                    break;
                case 3:
                    street.put(who, WIDOW, 1);
                    break;
                case 4:
                    street.put(who, WIDOW, 0);
                    break;
                case 5:
                    street.add(who, DOWRY, n);
                    break;
                default:
                    street.jugAt = who;
                    break;
            }
        }

        private void lookForHusband(int who) {
            int to = nextOf(who);
            if (!canGo(who, to)) {
                street.gaps++;
                note(GAP, who, to);
            } else if (isLucky(ask(GOES, who))) {
                if (to != NONE) {
                    came |= 1 << to;
                }
                wed(who, to);
            }
        }

        private boolean canGo(int who, int to) {
            if (to == NONE) {
                return true;
            }
            return street.get(to, BOYS) > 0 && street.get(to, WIDOW) == 0 && !rules.feud(who, to);
        }

        private boolean isLucky(int goes) {
            if (thought) {
                return goes >= 500;
            }
            return goes > 0 && street.draw(1000) < goes;
        }

        private void wed(int who, int to) {
            // she is counted out before the law is asked what she brings
            street.add(who, GIRLS, -1);
            int brings = ask(BRINGS, who);
            street.add(who, DOWRY, -brings);
            int linen = street.get(who, LINEN);
            street.put(who, LINEN, NONE);
            if (to == NONE) {
                street.gone++;
                note(SEA, who, brings);
                return;
            }
            street.add(to, DOWRY, brings);
            street.add(to, BOYS, -1);
            street.add(to, COUPLES, 1);
            street.weddings++;
            if (linen != NONE) {
                street.put(to, LINEN, linen);
            }
            if (street.jugAt == who) {
                street.jugAt = to;
            }
            note(WEDDING, who, brings);
        }

        private void bear(int who) {
            int couples = street.get(who, COUPLES);
            int born = 0;
            int counted = 0;
            for (int couple = 0; couple < couples; couple++) {
                // asked for each couple anew: the children before may have changed the answer
                int children = ask(BEARS, who);
                for (int child = 0; child < children; child++) {
                    int what = (thought ? born % 2 : street.draw(2)) == 0 ? GIRLS : BOYS;
                    born++;
                    if (street.get(who, what) < MOST_PEOPLE) {
                        street.add(who, what, 1);
                        counted++;
                    }
                }
            }
            street.put(who, COUPLES, 0);
            if (counted > 0) {
                note(CHILDREN, who, counted);
            }
        }

        private void beWidowed(int who) {
            boolean left = (came >> who & 1) == 0 && street.get(who, BOYS) > 0 && street.get(who, GIRLS) == 0;
            if (left && street.get(who, WIDOW) == 0) {
                street.put(who, WIDOW, 1);
                note(WIDOWED, who, 0);
            }
        }

        private void note(int what, int who, int much) {
            if (thought || street.lines < 0 || street.lines >= MOST_BOOK) {
                return;
            }
            int start = street.lines * LINE;
            pages[start] = street.generation;
            pages[start + 1] = what;
            pages[start + 2] = who;
            pages[start + 3] = much;
            street.lines++;
        }

        /** What the law tells of a house for a word, within its bounds. */
        int ask(int word, int who) {
            int answer = usual(word, who);
            int size = rules.laws.size;
            for (int i = 0; i < size; i += LINE) {
                int condition = rules.laws.at(i + 2);
                int end = rules.laws.at(i + 3);
                if (rules.laws.at(i) == word && (condition == end || reckon(condition, end, who) != 0)) {
                    answer = reckon(rules.laws.at(i + 1), condition, who);
                    break;
                }
            }
            return Math.max(0, Math.min(answer, mostFor(word, who)));
        }

        private int usual(int word, int who) {
            switch (word) {
                case GOES: return 800 - 100 * street.gaps;
                case BEARS: return 2;
                default: return street.get(who, DOWRY) / 2;
            }
        }

        private int mostFor(int word, int who) {
            switch (word) {
                case GOES: return 1000;
                case BEARS: return 5;
                default: return street.get(who, DOWRY);
            }
        }

        /** What a part of the law's code comes to for a house (so: 1, not so: 0). */
        private int reckon(int from, int to, int who) {
            int top = 0;
            for (int i = from; i < to; i++) {
                int code = rules.code.at(i);
                boolean leaf = code >= 0 || code <= CODE_NAME;
                if (leaf && top < MOST_STACK) {
                    stack[top] = code >= 0 ? code : named(CODE_NAME - code, who);
                    top++;
                } else if (code == CODE_NOT && top >= 1) {
                    stack[top - 1] = 1 - stack[top - 1];
                } else if (!leaf && top >= 2) {
                    top--;
                    stack[top - 1] = joined(code, stack[top - 1], stack[top]);
                }
            }
            return stack[0];
        }

        private static int joined(int code, int a, int b) {
            switch (code) {
                case -'+': return a + b;
                case -'-': return a - b;
                case -'*': return a * b;
                case -'/': return b == 0 ? 0 : a / b;
                case -'<': return a < b ? 1 : 0;
                case -'=': return a == b ? 1 : 0;
                case -'>': return a > b ? 1 : 0;
                case CODE_AND: return a & b;
                default: return a | b;
            }
        }

        /** What a keyword of the law stands for, by its place among the keywords. */
        private int named(int word, int who) {
            switch (word) {
                case 7: return street.get(who, GIRLS);
                case 8: return street.get(who, BOYS);
                case 9: return street.get(who, COUPLES);
                case 10: return street.get(who, DOWRY);
                case 11: return street.get(who, WIDOW);
                case 12: return who;
                case 13: return rules.sideOf(who);
                case 14: return street.jugAt == who ? 1 : 0;
                case 15: return street.gaps;
                default: return street.generation;
            }
        }
    }

    /** How the street was before the latest deeds. */
    private static final class Past {
        private final Street[] kept;
        private int size;
        private int next;

        Past() {
            kept = new Street[MOST_UNDONE];
            for (int i = 0; i < MOST_UNDONE; i++) {
                kept[i] = new Street();
            }
        }

        void forget() {
            size = 0;
        }

        void keep(Street street) {
            kept[next].copy(street);
            next = (next + 1) % MOST_UNDONE;
            size = Math.min(size + 1, MOST_UNDONE);
        }

        boolean goBack(Street street) {
            if (size == 0) {
                return false;
            }
            next = (next + MOST_UNDONE - 1) % MOST_UNDONE;
            size--;
            street.copy(kept[next]);
            return true;
        }
    }

    /** What is told for thought. */
    private static final class Told {
        /* Two numbers are kept as one: the first times this, and the second. */
        private static final int PAIR = 16;
        private static final int MOST_WANTS = 10;

        private final Row children;
        private final Row couples;
        private final Row dowries;
        private final Row persons;
        private final Row heights;
        private final int[] wants;

        Told() {
            children = new Row(12);
            couples = new Row(6);
            dowries = new Row(10);
            persons = new Row(14);
            heights = new Row(10);
            wants = new int[MOST_WANTS];
            Arrays.fill(wants, NONE);
        }

        void copy(Told other) {
            children.copy(other.children);
            couples.copy(other.couples);
            dowries.copy(other.dowries);
            persons.copy(other.persons);
            heights.copy(other.heights);
            System.arraycopy(other.wants, 0, wants, 0, MOST_WANTS);
        }
    }

    /** What is thought about the rows that were told. */
    private static final class Thoughts {
        /* A power of two, which kinship of fourteen persons parts without a rest. */
        private static final int WHOLE = 1 << 20;
        private static final int MOST_PERSONS = 14;
        private static final int MOST_DOORS = 18;
        /* No row of dowries needs as many rounds. */
        private static final int MOST_ROUNDS = 1000000;

        private final Told told;
        private final int[] desk;
        /* What a run of doors that are safe to mark is worth (Grundy's number), by its length. */
        private final int[] worth;

        Thoughts(Told told) {
            this.told = told;
            desk = new int[MOST_PERSONS * MOST_PERSONS];
            worth = new int[MOST_DOORS + 1];
            for (int length = 1; length <= MOST_DOORS; length++) {
                worth[length] = worthOf(length);
            }
        }

        int changesForNoGirlsTogether() {
            int changes = 0;
            boolean girl = false;
            for (int i = 0; i < told.children.size; i++) {
                girl = told.children.at(i) == 0 && !girl;
                if (told.children.at(i) == 0 && !girl) {
                    changes++;
                }
            }
            return changes;
        }

        int changesForTurns() {
            int changes = 0;
            for (int i = 0; i < told.children.size; i++) {
                if (told.children.at(i) != i % 2) {
                    changes++;
                }
            }
            return Math.min(changes, told.children.size - changes);
        }

        int rowsSideBySide(int n) {
            Arrays.fill(desk, 0);
            for (int i = 0; i < told.couples.size; i++) {
                join(told.couples.at(i) / Told.PAIR, told.couples.at(i) % Told.PAIR, n);
                join(told.couples.at(i) % Told.PAIR, told.couples.at(i) / Told.PAIR, n);
            }
            int groups = 0;
            int ends = 0;
            int seen = 0;
            int bonds = 0;
            for (int who = 0; who < n; who++) {
                int beside = Integer.bitCount(desk[who]);
                if (beside > 2) {
                    return 0;
                }
                bonds += beside;
                if ((seen >> who & 1) == 0) {
                    seen |= groupOf(who, n);
                    groups++;
                    ends += beside > 0 ? 1 : 0;
                }
            }
            // more bonds than a row of each group has close a ring
            return bonds / 2 == n - groups ? factorial(groups) << ends : 0;
        }

        int rowsBehind(int n) {
            Arrays.fill(desk, 0);
            for (int i = 0; i < told.couples.size; i++) {
                join(told.couples.at(i) % Told.PAIR, told.couples.at(i) / Told.PAIR, n);
            }
            int bonds = 0;
            int taken = 0;
            for (int who = 0; who < n; who++) {
                int behind = desk[who];
                if (Integer.bitCount(behind) > 1 || (taken & behind) != 0 || comesBack(who, n)) {
                    return 0;
                }
                taken |= behind;
                bonds += Integer.bitCount(behind);
            }
            return factorial(n - bonds);
        }

        /** Marks on the desk that one has another one beside it (or behind it). */
        private void join(int who, int with, int n) {
            if (who >= 0 && who < n && with >= 0 && with < n) {
                desk[who] |= 1 << with;
            }
        }

        private int groupOf(int who, int n) {
            int group = 1 << who;
            for (int round = 0; round < n; round++) {
                for (int other = 0; other < n; other++) {
                    if ((group >> other & 1) == 1) {
                        group |= desk[other];
                    }
                }
            }
            return group;
        }

        /** Whether those behind one another (one behind each at most, else it counts for nothing) lead back. */
        private boolean comesBack(int who, int n) {
            int reached = desk[who];
            for (int round = 0; round < n; round++) {
                for (int other = 0; other < n; other++) {
                    if ((reached >> other & 1) == 1) {
                        reached |= desk[other];
                    }
                }
            }
            return (reached >> who & 1) == 1;
        }

        private static int factorial(int n) {
            int product = 1;
            for (int i = 2; i <= n; i++) {
                product *= i;
            }
            return product;
        }

        /** Pushes the dowries on the desk till they lie: how many times. */
        int pushAll() {
            int size = told.dowries.size;
            for (int i = 0; i < size; i++) {
                desk[i] = told.dowries.at(i);
            }
            int times = 0;
            boolean moving = true;
            for (int round = 0; round < MOST_ROUNDS && moving; round++) {
                moving = false;
                for (int i = 0; i < size; i++) {
                    int gifts = desk[i] / 2;
                    moving = moving || gifts > 0;
                    times += gifts;
                    give(i, -2 * gifts, size);
                    give(i - 1, gifts, size);
                    give(i + 1, gifts, size);
                }
            }
            return times;
        }

        private void give(int i, int n, int size) {
            if (i >= 0 && i < size) {
                desk[i] += n;
            }
        }

        int leftWith(int i) {
            return i >= 0 && i < told.dowries.size ? desk[i] : NONE;
        }

        /** How near two are akin, of the whole; the second not told behind the first. */
        int kinship(int i, int j) {
            for (int late = 0; late <= i; late++) {
                int parents = told.persons.at(late);
                int a = parents / Told.PAIR;
                int b = parents % Told.PAIR;
                for (int early = 0; early < late; early++) {
                    int near = parents == NONE ? 0 : (between(a, early) + between(b, early)) / 2;
                    desk[late * MOST_PERSONS + early] = near;
                }
                int self = parents == NONE ? 0 : between(a, b) / 2;
                desk[late * MOST_PERSONS + late] = WHOLE / 2 + self;
            }
            return between(i, j);
        }

        private int between(int i, int j) {
            int at = Math.max(i, j) * MOST_PERSONS + Math.min(i, j);
            return at >= 0 && at < desk.length ? desk[at] : 0;
        }

        /** All rings move, and into each empty house the longest row that ends there. */
        int mostThatMove() {
            int many = 0;
            for (int goal = 0; goal < Told.MOST_WANTS; goal++) {
                if (told.wants[goal] == NONE - 1) {
                    int longest = 0;
                    for (int who = 0; who < Told.MOST_WANTS; who++) {
                        longest = Math.max(longest, stepsTo(who, goal));
                    }
                    many += longest;
                } else if (stepsTo(goal, goal) > 0) {
                    many++;
                }
            }
            return many;
        }

        /** Behind how many wishes (1 at least) one comes to a house; 0: never. */
        private int stepsTo(int who, int goal) {
            int at = who;
            for (int steps = 1; steps <= Told.MOST_WANTS; steps++) {
                at = told.wants[at];
                if (at < 0 || at >= Told.MOST_WANTS) {
                    return 0;
                }
                if (at == goal) {
                    return steps;
                }
            }
            return 0;
        }

        int couplesThatSee() {
            int many = 0;
            for (int i = 0; i < told.heights.size; i++) {
                many += seenFrom(i);
            }
            return many / 2;
        }

        int mostSeen() {
            int most = 0;
            for (int i = 0; i < told.heights.size; i++) {
                most = Math.max(most, seenFrom(i));
            }
            return most;
        }

        private int seenFrom(int i) {
            int many = 0;
            for (int j = 0; j < told.heights.size; j++) {
                if (j != i && see(Math.min(i, j), Math.max(i, j))) {
                    many++;
                }
            }
            return many;
        }

        private boolean see(int i, int j) {
            int low = Math.min(told.heights.at(i), told.heights.at(j));
            for (int between = i + 1; between < j; between++) {
                if (told.heights.at(between) >= low) {
                    return false;
                }
            }
            return true;
        }

        int rising() {
            int many = 0;
            for (int i = 0; i < told.heights.size; i++) {
                desk[i] = 1;
                for (int j = 0; j < i; j++) {
                    if (told.heights.at(j) < told.heights.at(i)) {
                        desk[i] += desk[j];
                    }
                }
                many += desk[i];
            }
            return many;
        }

        static boolean threeTogether(int marks) {
            return (marks & marks >> 1 & marks >> 2) != 0;
        }

        int leastWinningDoor(int n, int marks) {
            if (n < 3) {
                return NONE;
            }
            for (int door = 0; door < n; door++) {
                int then = marks | 1 << door;
                if (then != marks && (threeTogether(then) || !nextCanWin(n, then))) {
                    return door;
                }
            }
            return NONE;
        }

        /** Of three doors at least, where no three are marked side by side. */
        private boolean nextCanWin(int n, int marks) {
            int sum = 0;
            int run = 0;
            for (int door = 0; door < n; door++) {
                if (threeTogether(marks | 1 << door)) {
                    return true;
                }
                // who marks a door beside a mark, or one further, gives the third door away
                boolean safe = (marks << 2 >> door & 31) == 0;
                run = safe ? run + 1 : 0;
                boolean last = door == n - 1 || (marks << 2 >> door + 1 & 31) != 0;
                if (safe && last) {
                    sum ^= worthOfRun(run);
                }
            }
            return sum != 0;
        }

        private int worthOfRun(int length) {
            return length > 0 && length <= MOST_DOORS ? worth[length] : 0;
        }

        /** The least number that no mark in a run so long leaves. */
        private int worthOf(int length) {
            int left = 0;
            for (int door = 0; door < length; door++) {
                left |= 1 << (worthOfRun(door - 2) ^ worthOfRun(length - door - 3));
            }
            int least = 0;
            while (least < 31 && (left >> least & 1) == 1) {
                least++;
            }
            return least;
        }
    }

    /** What is thought about numbers alone. */
    private static final class Numbers {
        private Numbers() {
        }

        /** Behind how many generations two so far apart stand at one door; NONE: never. */
        static int meetsBehind(int n, int k, int apart) {
            for (int t = 0; t < n; t++) {
                if (apartBehind(n, k, apart, t) == 0) {
                    return t;
                }
            }
            return NONE;
        }

        static int passesFirst(int n, int k, int apart) {
            for (int t = 0; t < n; t++) {
                int then = apartBehind(n, k, apart, t);
                if (then <= k) {
                    return then == 0 ? 0 : 1;
                }
            }
            return 0;
        }

        private static int apartBehind(int n, int k, int apart, int t) {
            return n > 0 ? Math.floorMod(apart - (k + 1) * t, n) : 0;
        }

        /** How many wagons a told row has; NONE if it is no row of each once behind a 1. */
        static int wagons(int row) {
            int set = 0;
            int n = 0;
            int rest = row;
            for (int i = 0; i < 10 && rest >= 10; i++) {
                set |= 1 << rest % 10;
                rest /= 10;
                n++;
            }
            return rest == 1 && n >= 1 && n <= 9 && set == (1 << n) - 1 ? n : NONE;
        }

        /** How many are in the siding at most; NONE if they can't go on. */
        static int mostInSiding(int row, int n) {
            long siding = 0;
            int inside = 0;
            int most = 0;
            int due = 0;
            for (int i = n - 1; i >= 0; i--) {
                int wagon = row / power(10, i) % 10;
                if (wagon == due) {
                    due++;
                } else {
                    siding = siding * 10 + wagon;
                    inside++;
                    most = Math.max(most, inside);
                }
                for (int out = 0; out < n && inside > 0 && siding % 10 == due; out++) {
                    siding /= 10;
                    inside--;
                    due++;
                }
            }
            return inside == 0 ? most : NONE;
        }

        /** Catalan's number. */
        static int rowsThatGo(int n) {
            int many = 1;
            for (int i = 1; i <= n; i++) {
                many = many * 2 * (2 * i - 1) / (i + 1);
            }
            return many;
        }

        /** What of the way to n is won from door i, if going on counts on and going back counts back. */
        static int weight(int i, int n, int on, int back) {
            int sum = 0;
            for (int j = 0; j < i; j++) {
                sum += power(back, j) * power(on, n - 1 - j);
            }
            return sum;
        }

        /** Of a fraction in lowest terms what 0 above, 1 below. */
        static int lowest(int above, int below, int what) {
            int common = commonPart(above, below);
            if (common == 0) {
                return 0;
            }
            return what == 0 ? above / common : below / common;
        }

        private static int commonPart(int a, int b) {
            int greater = a;
            int less = b;
            for (int i = 0; i < 100 && less != 0; i++) {
                int rest = greater % less;
                greater = less;
                less = rest;
            }
            return greater;
        }

        private static int power(int base, int exponent) {
            int product = 1;
            for (int i = 0; i < exponent; i++) {
                product *= base;
            }
            return product;
        }

        /** How many paintings stay the same, over all turns of the ring. */
        static int sameTurned(int n, int k) {
            int sum = 0;
            for (int turn = 1; turn <= n; turn++) {
                sum += power(k, commonPart(turn, n));
            }
            return sum;
        }

        /** How many paintings stay the same, over all ways to see the ring from behind. */
        static int sameFromBehind(int n, int k) {
            int sum = 0;
            for (int way = 0; way < n; way++) {
                int alone = n % 2 == 1 ? 1 : way % 2 * 2;
                sum += power(k, (n + alone) / 2);
            }
            return sum;
        }

        static int placeBehind(int n, int i, int times) {
            int half = (n + 1) / 2;
            int at = i;
            for (int t = 0; t < times; t++) {
                at = at < half ? 2 * at : 2 * (at - half) + 1;
            }
            return at;
        }

        static int inOrderBehind(int n) {
            for (int times = 1; times <= 1000; times++) {
                boolean first = true;
                for (int i = 0; i < n && first; i++) {
                    first = placeBehind(n, i, times) == i;
                }
                if (first) {
                    return times;
                }
            }
            return NONE;
        }
    }

    /** All that is and was told, as it was once. */
    private static final class Picture {
        private final Street street;
        private final Rules rules;
        private final int[] pages;
        private final Told told;

        Picture() {
            street = new Street();
            rules = new Rules();
            pages = new int[MOST_BOOK * LINE];
            told = new Told();
        }

        void take(Street fromStreet, Rules fromRules, int[] fromPages, Told fromTold) {
            street.copy(fromStreet);
            rules.copy(fromRules);
            System.arraycopy(fromPages, 0, pages, 0, pages.length);
            told.copy(fromTold);
        }

        void give(Street toStreet, Rules toRules, int[] toPages, Told toTold) {
            toStreet.copy(street);
            toRules.copy(rules);
            System.arraycopy(pages, 0, toPages, 0, pages.length);
            toTold.copy(told);
        }
    }
}

import java.util.Arrays;
import java.util.NoSuchElementException;

/** The monster is put to bed first: see README.md for how it is used. */
public final class MonsterCot {
    public static final int NONE = -1;
    public static final int HIDDEN = -1000000;

    private static final int NO_SUCH_SORT = -2;
    private static final int LANDING = 0;
    private static final int LAW = 1;
    private static final int WEEK = 2;

    private static final int KINDS = 4;
    private static final int MOST_HOUSES = 6;
    private static final int MOST_BOOKS = 6;
    private static final int MOST_PAGES = 9;
    private static final int MOST_CALM = 99;
    private static final int MOST_BORED = 9;
    private static final int MOST_VOICE = 9;
    private static final int MOST_HUSH = 9;
    private static final int MOST_TEXTS = 4;
    private static final int MOST_YEARS = 30;
    private static final int LAST_NIGHT = 9999;
    private static final int LONGEST_TAPE = 240;
    private static final int ALL_PARTS = 1000000;

    private static final long DRAW_TIMES = 6364136223846793005L;
    private static final long DRAW_MORE = 1442695040888963407L;

    private final Tape tape;
    private final LandingText landingText;
    private final LawText lawText;
    private final Weeks weeks;
    private final Land land;
    private final Laws laws;
    private final Ways ways;
    private final Bed bed;
    private final Bed apart;
    private final Past past;
    private final Search search;
    private final Watch watch;
    private int hushNow;
    private long drawn;

    public MonsterCot() {
        tape = new Tape();
        landingText = new LandingText(tape);
        lawText = new LawText(tape);
        weeks = new Weeks(tape);
        land = new Land();
        laws = new Laws();
        ways = new Ways(land, laws);
        bed = new Bed();
        apart = new Bed();
        past = new Past();
        search = new Search(ways, bed);
        watch = new Watch(ways, bed);
    }

    public int feed(int a, int b, int c, int d, int e) {
        return tape.takesIn(a, b, c, d, e) ? tape.size : NONE;
    }

    public boolean end(int n) {
        return tape.cutTo(n);
    }

    public int fault(int sort) {
        if (sort < LANDING || sort > WEEK) {
            return NO_SUCH_SORT;
        }
        return isRight(sort) ? NONE : tape.mark;
    }

    public int text(int sort) {
        if (sort < LANDING || sort > WEEK || !isRight(sort)) {
            return NONE;
        }
        int answer = sort == LANDING ? moveIn() : sort == LAW ? laws.keep(lawText) : weeks.keepDraft();
        if (answer != NONE) {
            tape.cutTo(0);
        }
        return answer;
    }

    public int rule(int what) {
        if (!land.stands() || what < 0 || what > 2) {
            return NONE;
        }
        return what == 0 ? bed.calm : what == 1 ? land.enough() : land.loses();
    }

    public int tome(int book, int what) {
        if (!land.hasBook(book)) {
            return NONE;
        }
        switch (what) {
            case 0:
                return land.pagesOf(book);
            case 1:
                return land.calmingOf(book);
            case 2:
                return land.kindOf(book);
            case 3:
                return bed.wasRead(book) ? 1 : 0;
            default:
                return NONE;
        }
    }

    public int house(int house, int what) throws NoSuchElementException {
        if (!land.hasHouse(house) || what < 0 || what > 4) {
            throw new NoSuchElementException("no such house, or nothing such of it");
        }
        switch (what) {
            case 0:
                return land.childrenOf(house);
            case 1:
                return land.strengthOf(house);
            case 2:
                return at(bed.voices, house);
            case 3:
                return at(bed.tired, house);
            default:
                return at(bed.turns, house);
        }
    }

    public int bored(int kind) {
        return land.stands() && isKind(kind) ? at(bed.bored, kind) : NONE;
    }

    public boolean law(int law) {
        return laws.hold(law);
    }

    public boolean hush(int v) {
        if (v < 0 || v > MOST_HUSH || v == hushNow) {
            return false;
        }
        hushNow = v;
        return true;
    }

    public int read(int book, int pages, boolean skip) {
        if (!ways.canRead(bed, book, pages, skip)) {
            return NONE;
        }
        past.keep(bed);
        ways.doRead(bed, book, pages, skip);
        return bed.calm;
    }

    public int milk() {
        if (!ways.canDrink(bed)) {
            return NONE;
        }
        past.keep(bed);
        ways.drink(bed);
        return bed.calm;
    }

    public int goes(int house) {
        if (!ways.canGo(bed, house)) {
            return NONE;
        }
        past.keep(bed);
        ways.go(bed, house);
        return bed.where;
    }

    public int voice(int house, int v) {
        if (!land.hasHouse(house) || v < 0 || v > MOST_VOICE || at(bed.voices, house) == v) {
            return NONE;
        }
        past.keep(bed);
        int before = at(bed.voices, house);
        put(bed.voices, house, v);
        return before;
    }

    public int night() {
        if (!ways.canPass(bed)) {
            return NONE;
        }
        past.keep(bed);
        return passLoggedNight();
    }

    public int years(int n, long seed) {
        if (!land.stands() || n < 1 || n > MOST_YEARS || bed.night + n > LAST_NIGHT) {
            return NONE;
        }
        drawn = seed;
        for (int i = 0; i < n; i++) {
            past.keep(bed);
            readByDraw();
            readByDraw();
            if (draw(10) < hushNow && ways.canDrink(bed)) {
                ways.drink(bed);
            }
            passLoggedNight();
        }
        return bed.night;
    }

    public int undo() {
        return past.takeBack(bed) ? past.acts : NONE;
    }

    public int log(int i, int what) {
        return past.logged(bed, i, what);
    }

    public int step(int week, int i, int what) {
        if (what < 0 || what > 2 || !weeks.hasStep(week, i)) {
            return HIDDEN;
        }
        int told = weeks.stepOf(week, i);
        if (what == 0) {
            return Weeks.sortOf(told);
        }
        return Weeks.hasDigit(told, what) ? Weeks.digitOf(told, what) : NONE;
    }

    public int run(int week, int what) {
        if (!land.stands() || !weeks.has(week) || what < 0 || what > 1) {
            return HIDDEN;
        }
        apart.copyFrom(bed);
        int size = weeks.sizeOf(week);
        int sleeping = 0;
        int first = NONE;
        for (int i = 0; i < size && first == NONE; i++) {
            int told = weeks.stepOf(week, i);
            if (ways.canStep(apart, told)) {
                sleeping += ways.doStep(apart, told);
            } else {
                first = i;
            }
        }
        return what == 0 ? first : sleeping;
    }

    public int perform(int week) {
        if (!land.stands() || !weeks.has(week)) {
            return NONE;
        }
        int size = weeks.sizeOf(week);
        int done = 0;
        while (done < size && ways.canStep(bed, weeks.stepOf(week, done))) {
            int told = weeks.stepOf(week, done);
            past.keep(bed);
            if (Weeks.sortOf(told) == Weeks.PASS) {
                passLoggedNight();
            } else {
                ways.doStep(bed, told);
            }
            done++;
        }
        return done;
    }

    public int calms(int book, int pages) {
        if (!ways.hasPages(book, pages) || pages > ways.leftOf(bed, bed.where)) {
            return NONE;
        }
        return ways.calmNow(bed, book, pages);
    }

    public int least(int what) {
        if (!land.stands() || what < 0 || what > 1) {
            return NONE;
        }
        if (bed.calm >= land.enough()) {
            return 0;
        }
        if (!search.findLeast()) {
            return NONE;
        }
        return what == 0 ? search.most : search.found;
    }

    public int best(int pages, int what) {
        if (pages < 1 || pages > MOST_PAGES || what < 0 || what > 1) {
            return NONE;
        }
        int found = NONE;
        int calmest = NONE;
        for (int book = 0; book < land.books(); book++) {
            int calm = ways.canRead(bed, book, pages, false) ? ways.calmNow(bed, book, pages) : NONE;
            if (calm > calmest) {
                found = book;
                calmest = calm;
            }
        }
        return what == 0 ? found : calmest;
    }

    public int roster(int book, int what) {
        if (!land.hasBook(book) || what < 0 || what > 1) {
            return NONE;
        }
        search.findRoster(book);
        return what == 0 ? search.found : search.most;
    }

    public int seen(int book, int pages, int house, int v, boolean had) {
        if (!ways.hasPages(book, pages) || !land.hasHouse(house) || v < 0 || v > MOST_CALM) {
            return NONE;
        }
        return watch.note(book, pages, house, v, had) ? watch.size : NONE;
    }

    public int likes(int i) {
        return land.stands() ? watch.liked(i) : NONE;
    }

    public int probe(int house, int v) {
        return land.hasHouse(house) && v >= 0 && v <= MOST_CALM ? watch.bookToTry(house, v) : NONE;
    }

    public int which(int v, int i) {
        return land.stands() && v >= 0 && v <= MOST_CALM ? search.setsFor(v, i) : NONE;
    }

    public int game(int one, int other, int book, int x, int y, int what) {
        if (!canPlay(one, other, book) || what < 0 || what > 1) {
            return HIDDEN;
        }
        int most = land.pagesOf(book);
        if (x < 0 || x > most || y < 0 || y > most) {
            return HIDDEN;
        }
        boolean enough = search.enoughBehind(one, other, book, x, y);
        return what == 0 ? Search.gain(enough, x, y) : Search.gain(enough, y, x);
    }

    public int rests(int one, int other, int book, int i) {
        return canPlay(one, other, book) ? search.restsOf(one, other, book, i) : NONE;
    }

    public int odds(int house, int chance) {
        if (!land.hasHouse(house) || chance < 0 || chance > 100) {
            return NONE;
        }
        int parts = ALL_PARTS;
        for (int child = 0; child < land.childrenOf(house); child++) {
            parts -= parts * chance / 100;
        }
        return parts;
    }

    public int lasts(int book) {
        return land.hasBook(book) ? search.readingsOf(book) : NONE;
    }

    public int quiet() {
        return land.stands() ? search.nightsToQuiet() : NONE;
    }

    public int all(int what) {
        if (!land.stands()) {
            return NONE;
        }
        switch (what) {
            case 0:
                return search.fairest();
            case 1:
                return bed.calm >= land.enough() ? 1 : 0;
            case 2:
                return search.strongest();
            case 3:
                return search.loudest();
            case 4:
                return search.fullest();
            case 5:
                return search.longest();
            case 6:
                return search.freshKinds();
            case 7:
                return search.openBooks();
            default:
                return NONE;
        }
    }

    public int pages(int kind) {
        if (!land.stands() || !isKind(kind)) {
            return NONE;
        }
        int together = 0;
        for (int book = 0; book < land.books(); book++) {
            together += land.kindOf(book) == kind ? land.pagesOf(book) : 0;
        }
        return together;
    }

    public int left(int house) {
        return land.hasHouse(house) ? ways.leftOf(bed, house) : NONE;
    }

    public int image() {
        if (!land.stands()) {
            return NONE;
        }
        past.keepImage(bed);
        return bed.night;
    }

    public int back() {
        return past.bringBack(bed) ? bed.night : NONE;
    }

    public int count(int what) {
        switch (what) {
            case 0:
                return land.houses();
            case 1:
                return land.books();
            case 2:
                return laws.size;
            case 3:
                return weeks.size;
            case 4:
                return tape.size;
            case 5:
                return laws.held;
            default:
                return countOfNow(what);
        }
    }

    private int countOfNow(int what) {
        switch (what) {
            case 6:
                return bed.night;
            case 7:
                return bed.where;
            case 8:
                return bed.slept;
            case 9:
                return bed.awake;
            case 10:
                return bed.hadMilk ? 1 : 0;
            case 11:
                return bed.went ? 1 : 0;
            case 12:
                return hushNow;
            case 13:
                return watch.size;
            case 14:
                return Past.lengthOf(bed);
            case 15:
                return past.acts;
            default:
                return HIDDEN;
        }
    }

    private boolean isRight(int sort) {
        return sort == LANDING ? landingText.isRight() : sort == LAW ? lawText.isRight() : weeks.isRight();
    }

    private int moveIn() {
        land.copyFrom(landingText.draft);
        bed.begin(land);
        past.forget();
        watch.size = 0;
        return land.houses();
    }

    private int passLoggedNight() {
        int where = bed.where;
        int calm = bed.calm;
        int sleeping = ways.pass(bed);
        past.note(bed, where, calm, sleeping);
        return sleeping;
    }

    private void readByDraw() {
        int book = draw(land.books());
        int wanted = draw(MOST_PAGES) + 1;
        int pages = Math.min(wanted, land.pagesOf(book));
        if (ways.canRead(bed, book, pages, false)) {
            ways.doRead(bed, book, pages, false);
        }
    }

    private int draw(int many) {
        drawn = drawn * DRAW_TIMES + DRAW_MORE;
        return many > 0 ? (int) ((drawn >>> 33) % many) : 0;
    }

    private boolean canPlay(int one, int other, int book) {
        return land.hasHouse(one) && land.hasHouse(other) && one != other && land.hasBook(book);
    }

    private static boolean isKind(int kind) {
        return kind >= 0 && kind < KINDS;
    }

    private static int within(int low, int value, int high) {
        return value < low ? low : value > high ? high : value;
    }

    private static int heldCalm(int calm) {
        return calm < 0 ? 0 : calm > MOST_CALM ? MOST_CALM : calm;
    }

    /** An element by an index that may be none: 0 then, so that no index is ever used untested. */
    private static int at(int[] row, int index) {
        return index >= 0 && index < row.length ? row[index] : 0;
    }

    private static void put(int[] row, int index, int value) {
        if (index >= 0 && index < row.length) {
            row[index] = value;
        }
    }

    private static void lessen(int[] row, int by) {
        for (int i = 0; i < row.length; i++) {
            row[i] = Math.max(0, row[i] - by);
        }
    }

    private static void copy(int[] from, int[] to) {
        System.arraycopy(from, 0, to, 0, Math.min(from.length, to.length));
    }

    /** The bytes that were fed, and a mark that stands at the wrong one where a parser gives up. */
    private static final class Tape {
        /** No byte of 0 ever comes to the tape, so it can tell the end. */
        static final char END = 0;

        final char[] signs = new char[LONGEST_TAPE];
        int size;
        int mark;

        boolean takesIn(int a, int b, int c, int d, int e) {
            if (size + bytesOf(a) + bytesOf(b) + bytesOf(c) + bytesOf(d) + bytesOf(e) > LONGEST_TAPE) {
                return false;
            }
            add(a);
            add(b);
            add(c);
            add(d);
            add(e);
            return true;
        }

        private static int bytesOf(int number) {
            int bytes = 0;
            for (int shift = 24; shift >= 0; shift -= 8) {
                bytes += (number >>> shift & 255) != 0 ? 1 : 0;
            }
            return bytes;
        }

        private void add(int number) {
            for (int shift = 24; shift >= 0; shift -= 8) {
                int sign = number >>> shift & 255;
                if (sign != 0 && size >= 0 && size < signs.length) {
                    signs[size] = (char) sign;
                    size++;
                }
            }
        }

        boolean cutTo(int n) {
            if (n < 0 || n > size) {
                return false;
            }
            size = n;
            return true;
        }

        /** The sign at the mark, blanks or not: digits of a number must touch. */
        private char touching() {
            return mark >= 0 && mark < size && mark < signs.length ? signs[mark] : END;
        }

        /** The next sign that is no blank; the mark stands at it then. */
        char sign() {
            for (int i = mark; i >= 0 && i < size && i < signs.length; i++) {
                mark = i;
                if (signs[i] != ' ') {
                    return signs[i];
                }
            }
            mark = size;
            return END;
        }

        boolean isAtEnd() {
            return sign() == END;
        }

        boolean take(char wanted) {
            if (sign() != wanted) {
                return false;
            }
            mark++;
            return true;
        }

        /** Which of these signs is next (it is taken then), NONE if it is another one. */
        int takeOneOf(String wanted) {
            int which = wanted.indexOf(sign());
            if (which >= 0) {
                mark++;
            }
            return which;
        }

        int takeDigit() {
            char digit = sign();
            if (!isDigit(digit)) {
                return NONE;
            }
            mark++;
            return digit - '0';
        }

        /** A number; NONE, with the mark at the wrong sign, if there is none or it has more digits. */
        int takeNumber(int mostDigits) {
            if (!isDigit(sign())) {
                return NONE;
            }
            int value = 0;
            for (int i = 0; i < mostDigits && isDigit(touching()); i++) {
                value = value * 10 + (touching() - '0');
                mark++;
            }
            return isDigit(touching()) ? NONE : value;
        }

        private static boolean isDigit(char sign) {
            return sign >= '0' && sign <= '9';
        }
    }

    /** What a LANDING tells and no ACT changes. */
    private static final class Land {
        static final int RULES = 0;
        static final int BOOKS = 1;
        static final int HOUSES = 2;
        static final int ITEMS = 3;

        private static final int[] FIRST = {0, 3, 21};
        private static final int[] MOST = {1, MOST_BOOKS, MOST_HOUSES};
        private static final int[] USUAL = {10, 25, 8, 4, 3, 0, 2, 15, 5};

        final int[] counts = new int[3];
        final int[] numbers = new int[39];

        void clear() {
            Arrays.fill(counts, 0);
            fillUsual(RULES, 0);
        }

        private void fillUsual(int group, int index) {
            for (int item = 0; item < ITEMS; item++) {
                tell(group, index, item, at(USUAL, group * ITEMS + item));
            }
        }

        /** One more of a group, as it is without items; NONE: there are all that may be. */
        int open(int group) {
            int index = at(counts, group);
            if (index >= at(MOST, group)) {
                return NONE;
            }
            put(counts, group, index + 1);
            fillUsual(group, index);
            return index;
        }

        void tell(int group, int index, int item, int value) {
            put(numbers, at(FIRST, group) + index * ITEMS + item, value);
        }

        private int told(int group, int index, int item) {
            return at(numbers, at(FIRST, group) + index * ITEMS + item);
        }

        void copyFrom(Land other) {
            copy(other.counts, counts);
            copy(other.numbers, numbers);
        }

        boolean stands() {
            return houses() > 0;
        }

        int books() {
            return at(counts, BOOKS);
        }

        int houses() {
            return at(counts, HOUSES);
        }

        boolean hasBook(int book) {
            return book >= 0 && book < books();
        }

        boolean hasHouse(int house) {
            return house >= 0 && house < houses();
        }

        int calmAtFirst() {
            return told(RULES, 0, 0);
        }

        int enough() {
            return told(RULES, 0, 1);
        }

        int loses() {
            return told(RULES, 0, 2);
        }

        int pagesOf(int book) {
            return told(BOOKS, book, 0);
        }

        int calmingOf(int book) {
            return told(BOOKS, book, 1);
        }

        int kindOf(int book) {
            return told(BOOKS, book, 2);
        }

        int childrenOf(int house) {
            return told(HOUSES, house, 0);
        }

        int strengthOf(int house) {
            return told(HOUSES, house, 1);
        }

        int firstVoiceOf(int house) {
            return told(HOUSES, house, 2);
        }
    }

    /** The TAPE read as a LANDING into a draft, so that a wrong one leaves the LANDING as it was. */
    private static final class LandingText {
        private static final int[] LOWEST = {0, 1, 0, 1, 0, 0, 0, 1, 0};
        private static final int[] HIGHEST = {99, 99, 30, 9, 9, 3, 9, 40, 9};

        final Tape tape;
        final Land draft = new Land();

        LandingText(Tape tape) {
            this.tape = tape;
        }

        boolean isRight() {
            tape.mark = 0;
            draft.clear();
            for (int i = 0; i < LONGEST_TAPE; i++) {
                if (!takeClause()) {
                    return false;
                }
                if (tape.isAtEnd()) {
                    return draft.books() > 0 && draft.houses() > 0;
                }
                if (!tape.take(';')) {
                    return false;
                }
            }
            return false;
        }

        private boolean takeClause() {
            int group = "sbh".indexOf(tape.sign());
            int index = group < 0 ? NONE : draft.open(group);
            if (index < 0) {
                return false;
            }
            tape.mark++;
            String letters = group == Land.RULES ? "cel" : group == Land.BOOKS ? "pck" : "nsv";
            int there = 0;
            for (int i = 0; i < Land.ITEMS; i++) {
                int item = letters.indexOf(tape.sign());
                // A letter that was there ends the CLAUSE, and the caller finds it in the place of a ;
                if (item < 0 || (there >> item & 1) != 0) {
                    return true;
                }
                there |= 1 << item;
                tape.mark++;
                if (!takeItem(group, index, item)) {
                    return false;
                }
            }
            return true;
        }

        private boolean takeItem(int group, int index, int item) {
            int value = tape.takeNumber(2);
            if (value < 0) {
                return false;
            }
            int bound = group * Land.ITEMS + item;
            if (value < at(LOWEST, bound) || value > at(HIGHEST, bound)) {
                tape.mark--;
                return false;
            }
            draft.tell(group, index, item, value);
            return true;
        }
    }

    /** The TAPE read as a LAW into a row of orders for the stack of Laws. */
    private static final class LawText {
        private static final int DEEPEST = 6;

        final Tape tape;
        final int[] orders = new int[Laws.MOST_ORDERS];
        int size;

        LawText(Tape tape) {
            this.tape = tape;
        }

        boolean isRight() {
            tape.mark = 0;
            size = 0;
            for (int i = 0; i < LONGEST_TAPE; i++) {
                if (!takeClause()) {
                    return false;
                }
                if (tape.isAtEnd()) {
                    return true;
                }
                if (!tape.take(';')) {
                    return false;
                }
            }
            return false;
        }

        private boolean takeClause() {
            if (!tape.take('y') || !tape.take(':')) {
                return false;
            }
            boolean begun = "!(".indexOf(tape.sign()) < 0;
            if (begun && !takeSum(0)) {
                return false;
            }
            if (begun && Laws.COMPARES.indexOf(tape.sign()) < 0) {
                order(Laws.ANSWER);
                return true;
            }
            if (!takeCondition(0, begun) || !tape.take('?')) {
                return false;
            }
            int leap = size;
            order(Laws.LEAP);
            if (!takeSum(0)) {
                return false;
            }
            order(Laws.ANSWER);
            put(orders, leap, Laws.LEAP - size);
            return true;
        }

        /** begun: its first SUM has been taken, as it could have been the SUM of a CLAUSE. */
        private boolean takeCondition(int depth, boolean begun) {
            if (!takeTruth(depth, begun)) {
                return false;
            }
            for (int i = 0; i < LONGEST_TAPE && tape.take('|'); i++) {
                if (!takeTruth(depth, false)) {
                    return false;
                }
                order(Laws.OR);
            }
            return true;
        }

        private boolean takeTruth(int depth, boolean begun) {
            if (!takeUnit(depth, begun)) {
                return false;
            }
            for (int i = 0; i < LONGEST_TAPE && tape.take('&'); i++) {
                if (!takeUnit(depth, false)) {
                    return false;
                }
                order(Laws.AND);
            }
            return true;
        }

        private boolean takeUnit(int depth, boolean begun) {
            char first = tape.sign();
            if (!begun && (first == '!' || first == '(')) {
                return takeInnerUnit(first, depth);
            }
            if (!begun && !takeSum(depth)) {
                return false;
            }
            int compare = tape.takeOneOf(Laws.COMPARES);
            if (compare < 0 || !takeSum(depth)) {
                return false;
            }
            order(Laws.FIRST_COMPARE - compare);
            return true;
        }

        private boolean takeInnerUnit(char first, int depth) {
            if (depth >= DEEPEST) {
                return false;
            }
            tape.mark++;
            if (first == '(') {
                return takeCondition(depth + 1, false) && tape.take(')');
            }
            if (!takeUnit(depth + 1, false)) {
                return false;
            }
            order(Laws.NOT);
            return true;
        }

        private boolean takeSum(int depth) {
            if (!takeTerm(depth)) {
                return false;
            }
            for (int i = 0; i < LONGEST_TAPE; i++) {
                int sign = tape.takeOneOf("+-");
                if (sign < 0) {
                    return true;
                }
                if (!takeTerm(depth)) {
                    return false;
                }
                order(sign == 0 ? Laws.PLUS : Laws.MINUS);
            }
            return false;
        }

        private boolean takeTerm(int depth) {
            if (!takeAtom(depth)) {
                return false;
            }
            for (int i = 0; i < LONGEST_TAPE; i++) {
                int sign = tape.takeOneOf("*/");
                if (sign < 0) {
                    return true;
                }
                if (!takeAtom(depth)) {
                    return false;
                }
                order(sign == 0 ? Laws.TIMES : Laws.OVER);
            }
            return false;
        }

        private boolean takeAtom(int depth) {
            if (tape.sign() == '[') {
                if (depth >= DEEPEST) {
                    return false;
                }
                tape.mark++;
                return takeSum(depth + 1) && tape.take(']');
            }
            int letter = tape.takeOneOf(Laws.LETTERS);
            if (letter >= 0) {
                order(Laws.FIRST_LETTER - letter);
                return true;
            }
            int number = tape.takeNumber(4);
            if (number < 0) {
                return false;
            }
            order(number);
            return true;
        }

        private void order(int order) {
            put(orders, size, order);
            size++;
        }
    }

    /** The LAWS as rows of orders: a number of 0 or more is put on the stack, the others are told below. */
    private static final class Laws {
        static final String LETTERS = "cvbpnt";
        static final String COMPARES = "=<>";
        static final int FIRST_LETTER = -1;
        static final int PLUS = -7;
        static final int MINUS = -8;
        static final int TIMES = -9;
        static final int OVER = -10;
        static final int FIRST_COMPARE = -11;
        static final int EQUAL = -11;
        static final int BELOW = -12;
        static final int ABOVE = -13;
        static final int AND = -14;
        static final int OR = -15;
        static final int NOT = -16;
        static final int ANSWER = -17;
        /** LEAP less a place: go on there, if the CONDITION does not hold. */
        static final int LEAP = -100;
        /** Each order comes from a sign of its own (LEAP from its ?, ANSWER from its y). */
        static final int MOST_ORDERS = LONGEST_TAPE;

        private static final int FARTHEST = 1000000;
        private static final int LEAST_WORTH = -9;
        private static final int MOST_WORTH = 20;
        private static final long MIX = 0x9E3779B97F4A7C15L;
        private static final int KEPT_BITS = 11;

        final int[][] orders = new int[MOST_TEXTS][MOST_ORDERS];
        final int[] sizes = new int[MOST_TEXTS];
        final int[] letters = new int[6];
        /** Five may wait at each of seven depths. */
        final int[] stack = new int[64];
        /** LAWS never change, so what a page was found to be worth stays true; LEAST asks the same often. */
        final long[] kept = new long[1 << KEPT_BITS];
        int size;
        int held = NONE;
        int top;

        int keep(LawText text) {
            if (size < 0 || size >= MOST_TEXTS || size >= orders.length) {
                return NONE;
            }
            copy(text.orders, orders[size]);
            put(sizes, size, text.size);
            size++;
            return size - 1;
        }

        boolean hold(int law) {
            if (law < NONE || law >= size) {
                return false;
            }
            held = law;
            return true;
        }

        /** What a page CALMS, by the LAW that holds. */
        int worthOf(int calming, int voice, int bored, int page, int night, int tired) {
            if (held < 0) {
                return within(LEAST_WORTH, calming + voice / 3 - bored, MOST_WORTH);
            }
            // Each number has a place of its own: TIRED is 40 and nine pages of a GAME at the most, a NIGHT 10,019.
            long people = ((held * 10L + calming) * 10 + voice) * 64 + tired;
            long key = ((people * 10 + bored) * 10 + page) * 16384 + night;
            int slot = (int) (key * MIX >>> 64 - KEPT_BITS);
            if (slot < 0 || slot >= kept.length) {
                return LEAST_WORTH;
            }
            // Five bits hold the worth as 1 .. 30, so that an empty slot is never taken for one.
            if (kept[slot] >> 5 != key || kept[slot] == 0) {
                put(letters, 0, calming);
                put(letters, 1, voice);
                put(letters, 2, bored);
                put(letters, 3, page);
                put(letters, 4, night);
                put(letters, 5, tired);
                kept[slot] = (key << 5) + within(LEAST_WORTH, worthByLaw(), MOST_WORTH) + 10;
            }
            return (int) (kept[slot] & 31) - 10;
        }

        private int worthByLaw() {
            if (held < 0 || held >= orders.length) {
                return 0;
            }
            int[] row = orders[held];
            int end = Math.min(at(sizes, held), row.length);
            top = 0;
            for (int i = 0; i < end; i++) {
                int order = row[i];
                if (order == ANSWER) {
                    return pop();
                } else if (order <= LEAP) {
                    // A place behind this one, so that the row comes to its end.
                    i = pop() == 0 ? Math.max(i, LEAP - order - 1) : i;
                } else if (order >= 0) {
                    push(order);
                } else if (order > PLUS) {
                    push(at(letters, FIRST_LETTER - order));
                } else if (order == NOT) {
                    push(1 - pop());
                } else {
                    int right = pop();
                    int left = pop();
                    push(order >= OVER ? reckon(order, left, right) : compare(order, left, right) ? 1 : 0);
                }
            }
            return 0;
        }

        private static int reckon(int order, int left, int right) {
            long result;
            if (order == PLUS) {
                result = (long) left + right;
            } else if (order == MINUS) {
                result = (long) left - right;
            } else if (order == TIMES) {
                result = (long) left * right;
            } else {
                result = right == 0 ? 0 : left / right;
            }
            return result > FARTHEST ? FARTHEST : result < -FARTHEST ? -FARTHEST : (int) result;
        }

        private static boolean compare(int order, int left, int right) {
            switch (order) {
                case EQUAL:
                    return left == right;
                case BELOW:
                    return left < right;
                case ABOVE:
                    return left > right;
                case AND:
                    return left != 0 && right != 0;
                default:
                    return left != 0 || right != 0;
            }
        }

        private void push(int value) {
            if (top >= 0 && top < stack.length) {
                stack[top] = value;
                top++;
            }
        }

        private int pop() {
            if (top < 1 || top > stack.length) {
                return 0;
            }
            top--;
            return stack[top];
        }
    }

    /** The WEEKS, and the TAPE read as one; a STEP is 100 times its sort, 10 times its digit, the second one. */
    private static final class Weeks {
        static final int READ = 0;
        static final int SKIP = 1;
        static final int DRINK = 2;
        static final int PASS = 3;
        static final int GO = 4;

        private static final int MOST_STEPS = 16;
        private static final int[] DIGITS = {2, 2, 0, 0, 1};

        final Tape tape;
        final int[] draft = new int[MOST_STEPS];
        final int[] steps = new int[MOST_TEXTS * MOST_STEPS];
        final int[] sizes = new int[MOST_TEXTS];
        int draftSize;
        int size;

        Weeks(Tape tape) {
            this.tape = tape;
        }

        boolean isRight() {
            tape.mark = 0;
            for (int i = 0; i < MOST_STEPS; i++) {
                if (!takeStep(i)) {
                    return false;
                }
                if (tape.isAtEnd()) {
                    draftSize = i + 1;
                    return true;
                }
                if (i + 1 == MOST_STEPS || !tape.take(';')) {
                    return false;
                }
            }
            return false;
        }

        private boolean takeStep(int i) {
            int sort = tape.takeOneOf("rkmng");
            if (sort < 0) {
                return false;
            }
            int digits = at(DIGITS, sort);
            int first = digits < 1 ? 0 : tape.takeDigit();
            if (first < 0) {
                return false;
            }
            int second = digits < 2 ? 0 : tape.takeDigit();
            if (second < 0) {
                return false;
            }
            put(draft, i, sort * 100 + first * 10 + second);
            return true;
        }

        int keepDraft() {
            if (size < 0 || size >= MOST_TEXTS) {
                return NONE;
            }
            for (int i = 0; i < draftSize; i++) {
                put(steps, size * MOST_STEPS + i, at(draft, i));
            }
            put(sizes, size, draftSize);
            size++;
            return size - 1;
        }

        boolean has(int week) {
            return week >= 0 && week < size;
        }

        int sizeOf(int week) {
            return at(sizes, week);
        }

        boolean hasStep(int week, int i) {
            return has(week) && i >= 0 && i < sizeOf(week);
        }

        int stepOf(int week, int i) {
            return hasStep(week, i) ? at(steps, week * MOST_STEPS + i) : 0;
        }

        static int sortOf(int told) {
            return told / 100;
        }

        static boolean hasDigit(int told, int number) {
            return number <= at(DIGITS, sortOf(told));
        }

        static int digitOf(int told, int number) {
            return number == 1 ? told / 10 % 10 : told % 10;
        }
    }

    /** All that ACTS change and an IMAGE keeps, but for the rows of the LOG. */
    private static final class Bed {
        final int[] bored = new int[KINDS];
        final int[] tired = new int[MOST_HOUSES];
        final int[] voices = new int[MOST_HOUSES];
        final int[] turns = new int[MOST_HOUSES];
        int calm;
        int where;
        int night;
        int slept;
        int awake;
        int readBooks;
        int entries;
        boolean hadMilk;
        boolean went;

        void begin(Land land) {
            for (int house = 0; house < MOST_HOUSES; house++) {
                put(voices, house, land.firstVoiceOf(house));
            }
            Arrays.fill(tired, 0);
            Arrays.fill(turns, 0);
            Arrays.fill(bored, 0);
            calm = land.calmAtFirst();
            where = 0;
            night = 0;
            slept = 0;
            awake = 0;
            entries = 0;
            forgetEvening();
        }

        void forgetEvening() {
            readBooks = 0;
            hadMilk = false;
            went = false;
        }

        void copyFrom(Bed other) {
            copy(other.bored, bored);
            copy(other.tired, tired);
            copy(other.voices, voices);
            copy(other.turns, turns);
            calm = other.calm;
            where = other.where;
            night = other.night;
            slept = other.slept;
            awake = other.awake;
            readBooks = other.readBooks;
            entries = other.entries;
            hadMilk = other.hadMilk;
            went = other.went;
        }

        boolean wasRead(int book) {
            return (readBooks >> book & 1) != 0;
        }
    }

    /** What can be and what it does, to the BED as it is or to one apart. */
    private static final class Ways {
        private static final int SKIP_COSTS = 5;
        private static final int MILK_CALMS = 3;
        private static final int SLEEP_RESTS = 6;
        private static final int FRET_COSTS = 2;

        final Land land;
        final Laws laws;

        Ways(Land land, Laws laws) {
            this.land = land;
            this.laws = laws;
        }

        boolean hasPages(int book, int pages) {
            return land.hasBook(book) && pages >= 1 && pages <= land.pagesOf(book);
        }

        int leftOf(Bed bed, int house) {
            return land.strengthOf(house) - at(bed.tired, house);
        }

        int worthOf(int book, int page, int voice, int bored, int night, int tired) {
            return laws.worthOf(land.calmingOf(book), voice, bored, page, night, tired);
        }

        /** CALM behind the first pages of a BOOK, read by one with that VOICE and so TIRED as he begins. */
        int calmBehind(int calm, int book, int pages, int voice, int bored, int night, int tired) {
            int calming = land.calmingOf(book);
            int now = calm;
            for (int page = 0; page < pages; page++) {
                now = heldCalm(now + laws.worthOf(calming, voice, bored, page, night, tired + page));
            }
            return now;
        }

        /** The same, read where it is and as all is in that BED. */
        int calmNow(Bed bed, int book, int pages) {
            int bored = at(bed.bored, land.kindOf(book));
            int where = bed.where;
            return calmBehind(bed.calm, book, pages, at(bed.voices, where), bored, bed.night, at(bed.tired, where));
        }

        boolean canRead(Bed bed, int book, int pages, boolean skip) {
            if (!hasPages(book, pages) || bed.wasRead(book) || skip && pages < 2) {
                return false;
            }
            return (skip ? pages - 1 : pages) <= leftOf(bed, bed.where);
        }

        void doRead(Bed bed, int book, int pages, boolean skip) {
            int heard = skip ? pages - 1 : pages;
            int calm = calmNow(bed, book, heard);
            bed.calm = skip ? heldCalm(calm - SKIP_COSTS) : calm;
            put(bed.tired, bed.where, at(bed.tired, bed.where) + heard);
            bore(bed, land.kindOf(book));
            bed.readBooks |= 1 << book;
        }

        private static void bore(Bed bed, int kind) {
            put(bed.bored, kind, moreBored(at(bed.bored, kind)));
        }

        static int moreBored(int bored) {
            return Math.min(bored + 1, MOST_BORED);
        }

        boolean canDrink(Bed bed) {
            return land.stands() && !bed.hadMilk;
        }

        void drink(Bed bed) {
            bed.calm = heldCalm(bed.calm + MILK_CALMS);
            bed.hadMilk = true;
        }

        boolean canGo(Bed bed, int house) {
            return land.hasHouse(house) && house != bed.where && !bed.went;
        }

        void go(Bed bed, int house) {
            bed.where = house;
            bed.went = true;
        }

        boolean canPass(Bed bed) {
            return land.stands() && bed.night < LAST_NIGHT;
        }

        /** CALM behind a NIGHT. */
        int calmBehindNight(int calm) {
            int fret = calm >= land.enough() ? 0 : FRET_COSTS;
            return heldCalm(calm - land.loses() - fret);
        }

        static int restedFrom(int tired, int nights) {
            return Math.max(0, tired - nights * SLEEP_RESTS);
        }

        /** A NIGHT: how many slept. */
        int pass(Bed bed) {
            int children = land.childrenOf(bed.where);
            int sleeping = bed.calm >= land.enough() ? children : 0;
            bed.slept += sleeping;
            bed.awake += children - sleeping;
            bed.calm = calmBehindNight(bed.calm);
            lessen(bed.tired, SLEEP_RESTS);
            lessen(bed.bored, 1);
            put(bed.turns, bed.where, at(bed.turns, bed.where) + 1);
            bed.where = bed.where + 1 < land.houses() ? bed.where + 1 : 0;
            bed.night++;
            bed.forgetEvening();
            return sleeping;
        }

        boolean canStep(Bed bed, int told) {
            int first = Weeks.digitOf(told, 1);
            int second = Weeks.digitOf(told, 2);
            switch (Weeks.sortOf(told)) {
                case Weeks.READ:
                    return canRead(bed, first, second, false);
                case Weeks.SKIP:
                    return canRead(bed, first, second, true);
                case Weeks.DRINK:
                    return canDrink(bed);
                case Weeks.PASS:
                    return canPass(bed);
                default:
                    return canGo(bed, first);
            }
        }

        /** A STEP that can be: how many slept by it. */
        int doStep(Bed bed, int told) {
            int first = Weeks.digitOf(told, 1);
            int second = Weeks.digitOf(told, 2);
            switch (Weeks.sortOf(told)) {
                case Weeks.READ:
                    doRead(bed, first, second, false);
                    return 0;
                case Weeks.SKIP:
                    doRead(bed, first, second, true);
                    return 0;
                case Weeks.DRINK:
                    drink(bed);
                    return 0;
                case Weeks.PASS:
                    return pass(bed);
                default:
                    go(bed, first);
                    return 0;
            }
        }
    }

    /** The ACTS that can be UNDONE, the LOG and the IMAGE. */
    private static final class Past {
        private static final int MOST_ACTS = 40;
        private static final int MOST_LOGGED = 60;
        /** As many rows more as NIGHTS can be UNDONE: then the latest 60 are still there. */
        private static final int ROWS = MOST_LOGGED + MOST_ACTS;
        private static final int COLUMNS = 3;

        final Bed[] ring = new Bed[MOST_ACTS];
        final int[] rows = new int[ROWS * COLUMNS];
        final Bed imageBed = new Bed();
        final int[] imageRows = new int[ROWS * COLUMNS];
        boolean hasImage;
        int acts;
        int next;

        Past() {
            for (int i = 0; i < ring.length; i++) {
                ring[i] = new Bed();
            }
        }

        void forget() {
            acts = 0;
            hasImage = false;
        }

        /** To be called ahead of each ACT. */
        void keep(Bed bed) {
            if (next >= 0 && next < ring.length && ring[next] != null) {
                ring[next].copyFrom(bed);
                next = next + 1 < MOST_ACTS ? next + 1 : 0;
                acts = Math.min(acts + 1, MOST_ACTS);
            }
        }

        boolean takeBack(Bed bed) {
            int latest = next > 0 ? next - 1 : MOST_ACTS - 1;
            if (acts < 1 || latest >= ring.length || ring[latest] == null) {
                return false;
            }
            bed.copyFrom(ring[latest]);
            next = latest;
            acts--;
            return true;
        }

        void note(Bed bed, int house, int calm, int sleeping) {
            int row = Math.floorMod(bed.entries, ROWS) * COLUMNS;
            put(rows, row, house);
            put(rows, row + 1, calm);
            put(rows, row + 2, sleeping);
            bed.entries++;
        }

        static int lengthOf(Bed bed) {
            return Math.min(bed.entries, MOST_LOGGED);
        }

        int logged(Bed bed, int i, int what) {
            if (i < 0 || i >= lengthOf(bed) || what < 0 || what >= COLUMNS) {
                return NONE;
            }
            return at(rows, Math.floorMod(bed.entries - 1 - i, ROWS) * COLUMNS + what);
        }

        void keepImage(Bed bed) {
            imageBed.copyFrom(bed);
            copy(rows, imageRows);
            hasImage = true;
        }

        boolean bringBack(Bed bed) {
            if (!hasImage) {
                return false;
            }
            bed.copyFrom(imageBed);
            copy(imageRows, rows);
            acts = 0;
            return true;
        }
    }

    /** What is found apart, from as it is, without changing it. */
    private static final class Search {
        private static final int MOST_IN_ROW = 3;
        private static final int MOST_READINGS = 20;
        private static final int MOST_QUIET = 60;
        private static final int GAIN = 9;
        private static final int SHAME = 2;

        final Ways ways;
        final Land land;
        final Laws laws;
        final Bed bed;
        /** How BORED by each KIND at the place where a search stands. */
        final int[] bored = new int[KINDS];
        /** By 10 times x and y of a GAME: 1, if CALM is ENOUGH then. */
        final int[] enoughs = new int[100];
        /** What was found: the row, and the pages of LEAST or the sleepers of ROSTER. */
        int found;
        int most;
        int rosterBook;

        Search(Ways ways, Bed bed) {
            this.ways = ways;
            this.land = ways.land;
            this.laws = ways.laws;
            this.bed = bed;
        }

        boolean findLeast() {
            found = 0;
            most = MOST_IN_ROW * MOST_PAGES + 1;
            copy(bed.bored, bored);
            growRow(1, 0, 0, 0, bed.calm);
            return found > 0;
        }

        /** Rows with one BOOK more than that one, by which CALM is not ENOUGH yet. */
        private void growRow(int length, int used, int ahead, int pagesAhead, int calmAhead) {
            for (int book = 0; book < land.books(); book++) {
                if (((used | bed.readBooks) >> book & 1) == 0) {
                    growRowBy(book, length, used | 1 << book, ahead, pagesAhead, calmAhead);
                }
            }
        }

        private void growRowBy(int book, int length, int used, int ahead, int pagesAhead, int calmAhead) {
            int calming = land.calmingOf(book);
            int kind = land.kindOf(book);
            int before = at(bored, kind);
            int voice = at(bed.voices, bed.where);
            int tired = at(bed.tired, bed.where) + pagesAhead;
            int left = Math.min(land.strengthOf(bed.where) - tired, land.pagesOf(book));
            int enough = land.enough();
            int calm = calmAhead;
            // A row of more pages than the best one so far need not be looked at.
            for (int page = 0; page < left && pagesAhead + page < most; page++) {
                calm = heldCalm(calm + laws.worthOf(calming, voice, before, page, bed.night, tired + page));
                int row = ahead * 100 + book * 10 + page + 1;
                if (calm >= enough) {
                    offerRow(row, pagesAhead + page + 1);
                    return;
                }
                if (length < MOST_IN_ROW) {
                    put(bored, kind, Ways.moreBored(before));
                    growRow(length + 1, used, row, pagesAhead + page + 1, calm);
                    put(bored, kind, before);
                }
            }
        }

        private void offerRow(int newRow, int together) {
            if (together < most || together == most && newRow < found) {
                most = together;
                found = newRow;
            }
        }

        void findRoster(int book) {
            found = NONE;
            most = NONE;
            rosterBook = book;
            growRoster(0, 0, 0, 0, bed.calm, at(bed.bored, land.kindOf(book)));
        }

        /** Rosters with one HOUSE more, the lowest first, so that the first of the best ones is the least. */
        private void growRoster(int nights, int used, int ahead, int sleptAhead, int calmAhead, int boredAhead) {
            if (nights >= land.houses()) {
                if (sleptAhead > most) {
                    most = sleptAhead;
                    found = ahead;
                }
                return;
            }
            int pages = land.pagesOf(rosterBook);
            for (int house = 0; house < land.houses(); house++) {
                if ((used >> house & 1) != 0) {
                    continue;
                }
                int tired = Ways.restedFrom(at(bed.tired, house), nights);
                boolean can = pages <= land.strengthOf(house) - tired && !(nights == 0 && bed.wasRead(rosterBook));
                int night = bed.night + nights;
                int calm = can ? ways.calmBehind(calmAhead, rosterBook, pages, at(bed.voices, house), boredAhead, night,
                        tired) : calmAhead;
                int boredNow = Math.max(0, (can ? Ways.moreBored(boredAhead) : boredAhead) - 1);
                int sleeping = calm >= land.enough() ? land.childrenOf(house) : 0;
                growRoster(nights + 1, used | 1 << house, ahead * 10 + house, sleptAhead + sleeping,
                        ways.calmBehindNight(calm), boredNow);
            }
        }

        /** How many sets of BOOKS bring CALM to just v (i NONE), or the i-th. */
        int setsFor(int v, int i) {
            int soFar = 0;
            for (int set = 0; set < 1 << land.books(); set++) {
                if ((set & bed.readBooks) == 0 && calmBehindSet(set) == v) {
                    if (soFar == i) {
                        return set;
                    }
                    soFar++;
                }
            }
            return i == NONE ? soFar : NONE;
        }

        /** CALM behind all BOOKS of a set; NONE, if he would be too TIRED. */
        private int calmBehindSet(int set) {
            copy(bed.bored, bored);
            int voice = at(bed.voices, bed.where);
            int tired = at(bed.tired, bed.where);
            int calm = bed.calm;
            for (int book = 0; book < land.books(); book++) {
                if ((set >> book & 1) != 0) {
                    int pages = land.pagesOf(book);
                    if (tired + pages > land.strengthOf(bed.where)) {
                        return NONE;
                    }
                    int kind = land.kindOf(book);
                    calm = ways.calmBehind(calm, book, pages, voice, at(bored, kind), bed.night, tired);
                    put(bored, kind, Ways.moreBored(at(bored, kind)));
                    tired += pages;
                }
            }
            return calm;
        }

        boolean enoughBehind(int one, int other, int book, int x, int y) {
            int before = at(bed.bored, land.kindOf(book));
            int after = x == 0 ? before : Ways.moreBored(before);
            int calm = ways.calmBehind(bed.calm, book, x, at(bed.voices, one), before, bed.night, at(bed.tired, one));
            calm = ways.calmBehind(calm, book, y, at(bed.voices, other), after, bed.night, at(bed.tired, other));
            return calm >= land.enough();
        }

        /** What one has who read own pages, the other one others. */
        static int gain(boolean enough, int own, int others) {
            if (enough) {
                return GAIN - own;
            }
            return own < others ? -own - SHAME : -own;
        }

        /** How many RESTS there are (i NONE), or the i-th. */
        int restsOf(int one, int other, int book, int i) {
            int pages = land.pagesOf(book);
            for (int x = 0; x <= pages; x++) {
                for (int y = 0; y <= pages; y++) {
                    put(enoughs, x * 10 + y, enoughBehind(one, other, book, x, y) ? 1 : 0);
                }
            }
            int soFar = 0;
            for (int x = 0; x <= pages; x++) {
                for (int y = 0; y <= pages; y++) {
                    if (isRest(x, y, pages)) {
                        if (soFar == i) {
                            return x * 10 + y;
                        }
                        soFar++;
                    }
                }
            }
            return i == NONE ? soFar : NONE;
        }

        private boolean isRest(int x, int y, int pages) {
            int ofOne = gain(isEnough(x, y), x, y);
            int ofOther = gain(isEnough(x, y), y, x);
            for (int another = 0; another <= pages; another++) {
                boolean oneHasMore = gain(isEnough(another, y), another, y) > ofOne;
                boolean otherHasMore = gain(isEnough(x, another), another, x) > ofOther;
                if (oneHasMore || otherHasMore) {
                    return false;
                }
            }
            return true;
        }

        private boolean isEnough(int x, int y) {
            return at(enoughs, x * 10 + y) != 0;
        }

        /** LASTS of a BOOK. */
        int readingsOf(int book) {
            int pages = land.pagesOf(book);
            int voice = at(bed.voices, bed.where);
            int calm = bed.calm;
            int now = at(bed.bored, land.kindOf(book));
            for (int readings = 0; readings < MOST_READINGS; readings++) {
                for (int page = 0; page < pages; page++) {
                    calm = heldCalm(calm + ways.worthOf(book, page, voice, now, bed.night + readings, 0));
                }
                if (calm < land.enough()) {
                    return readings;
                }
                calm = ways.calmBehindNight(calm);
                now = Math.max(0, Ways.moreBored(now) - 1);
            }
            return MOST_READINGS;
        }

        int nightsToQuiet() {
            int calm = bed.calm;
            for (int nights = 0; nights <= MOST_QUIET; nights++) {
                if (calm == 0) {
                    return nights;
                }
                calm = ways.calmBehindNight(calm);
            }
            return NONE;
        }

        int fairest() {
            int soFar = 0;
            for (int house = 1; house < land.houses(); house++) {
                soFar = at(bed.turns, house) < at(bed.turns, soFar) ? house : soFar;
            }
            return soFar;
        }

        int strongest() {
            int soFar = 0;
            for (int house = 1; house < land.houses(); house++) {
                soFar = ways.leftOf(bed, house) > ways.leftOf(bed, soFar) ? house : soFar;
            }
            return soFar;
        }

        int loudest() {
            int soFar = 0;
            for (int house = 1; house < land.houses(); house++) {
                soFar = at(bed.voices, house) > at(bed.voices, soFar) ? house : soFar;
            }
            return soFar;
        }

        int fullest() {
            int soFar = 0;
            for (int house = 1; house < land.houses(); house++) {
                soFar = land.childrenOf(house) > land.childrenOf(soFar) ? house : soFar;
            }
            return soFar;
        }

        int longest() {
            int soFar = 0;
            for (int book = 1; book < land.books(); book++) {
                soFar = land.pagesOf(book) > land.pagesOf(soFar) ? book : soFar;
            }
            return soFar;
        }

        int freshKinds() {
            int bits = 0;
            for (int kind = 0; kind < KINDS; kind++) {
                bits |= at(bed.bored, kind) == 0 ? 1 << kind : 0;
            }
            return bits;
        }

        int openBooks() {
            int bits = 0;
            for (int book = 0; book < land.books(); book++) {
                bits |= ways.canRead(bed, book, land.pagesOf(book), false) ? 1 << book : 0;
            }
            return bits;
        }
    }

    /** What was SEEN, and which KINDS it may like by that. */
    private static final class Watch {
        private static final int MOST_SEEN = 10;
        private static final int COLUMNS = 5;
        private static final int LIKED_MORE = 3;
        private static final int MOST_WORTH = 20;
        /** What it may like: a KIND, or none (9). */
        private static final int[] TASTES = {0, 1, 2, 3, 9};

        final Ways ways;
        final Land land;
        final Bed bed;
        final int[] rows = new int[MOST_SEEN * COLUMNS];
        int size;

        Watch(Ways ways, Bed bed) {
            this.ways = ways;
            this.land = ways.land;
            this.bed = bed;
        }

        boolean note(int book, int pages, int house, int v, boolean had) {
            if (size >= MOST_SEEN) {
                return false;
            }
            int row = size * COLUMNS;
            put(rows, row, book);
            put(rows, row + 1, pages);
            put(rows, row + 2, house);
            put(rows, row + 3, v);
            put(rows, row + 4, had ? 1 : 0);
            size++;
            return true;
        }

        /** CALM behind a reading such as is SEEN, if that taste was its own. */
        private int calmBy(int taste, int book, int pages, int house) {
            int more = land.kindOf(book) == taste ? LIKED_MORE : 0;
            int voice = at(bed.voices, house);
            int calm = 0;
            for (int page = 0; page < pages; page++) {
                int worth = ways.worthOf(book, page, voice, 0, 0, page) + more;
                calm = heldCalm(calm + Math.min(worth, MOST_WORTH));
            }
            return calm;
        }

        private boolean fits(int taste) {
            for (int i = 0; i < size; i++) {
                int row = i * COLUMNS;
                int calm = calmBy(taste, at(rows, row), at(rows, row + 1), at(rows, row + 2));
                if (calm >= at(rows, row + 3) != (at(rows, row + 4) != 0)) {
                    return false;
                }
            }
            return true;
        }

        /** How many tastes fit (i NONE), or the i-th. */
        int liked(int i) {
            int found = 0;
            for (int taste : TASTES) {
                if (fits(taste)) {
                    if (found == i) {
                        return taste;
                    }
                    found++;
                }
            }
            return i == NONE ? found : NONE;
        }

        int bookToTry(int house, int v) {
            int fitting = 0;
            for (int taste : TASTES) {
                fitting |= fits(taste) ? 1 << taste : 0;
            }
            int found = NONE;
            int leastApart = TASTES.length + 1;
            for (int book = 0; book < land.books() && fitting != 0; book++) {
                int apart = apartBy(fitting, book, house, v);
                if (apart < leastApart) {
                    leastApart = apart;
                    found = book;
                }
            }
            return found;
        }

        /** How far apart in number those tastes are by whom CALM is v or more and the others. */
        private int apartBy(int fitting, int book, int house, int v) {
            int apart = 0;
            for (int taste : TASTES) {
                if ((fitting >> taste & 1) != 0) {
                    apart += calmBy(taste, book, land.pagesOf(book), house) >= v ? 1 : -1;
                }
            }
            return Math.abs(apart);
        }
    }
}

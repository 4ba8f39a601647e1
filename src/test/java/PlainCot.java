import java.nio.charset.StandardCharsets;
import java.util.ArrayDeque;
import java.util.ArrayList;
import java.util.Deque;
import java.util.HashMap;
import java.util.List;
import java.util.Map;
import java.util.NoSuchElementException;

/**
 * The document once more, as plainly and slowly as can be (texts cut by their signs, states copied whole, every row
 * tried), so that MonsterCot can be held against it.
 */
final class PlainCot {
    static final int NONE = -1;
    static final int HIDDEN = -1000000;

    /** What changes by ACTS. */
    static final class State {
        int calm;
        int where;
        int night;
        int slept;
        int awake;
        boolean milk;
        boolean went;
        List<Integer> read = new ArrayList<>();
        int[] bored = new int[4];
        int[] tired;
        int[] voice;
        int[] turns;
        List<int[]> log = new ArrayList<>();

        State copy() {
            State s = new State();
            s.calm = calm;
            s.where = where;
            s.night = night;
            s.slept = slept;
            s.awake = awake;
            s.milk = milk;
            s.went = went;
            s.read = new ArrayList<>(read);
            s.bored = bored.clone();
            s.tired = tired.clone();
            s.voice = voice.clone();
            s.turns = turns.clone();
            s.log = new ArrayList<>(log);
            return s;
        }
    }

    private String tape = "";
    private final List<String> laws = new ArrayList<>();
    private final List<String> weeks = new ArrayList<>();
    private int holds = NONE;
    private int hush;
    private int enough;
    private int loses;
    private List<int[]> books = new ArrayList<>();
    private List<int[]> houses = new ArrayList<>();
    private State now = new State();
    private State image;
    private Deque<State> acts = new ArrayDeque<>();
    private List<int[]> seen = new ArrayList<>();
    private long x;

    // ---- texts

    int feed(int a, int b, int c, int d, int e) {
        StringBuilder more = new StringBuilder();
        for (int number : new int[] {a, b, c, d, e}) {
            byte[] bytes = {(byte) (number >> 24), (byte) (number >> 16), (byte) (number >> 8), (byte) number};
            more.append(new String(bytes, StandardCharsets.ISO_8859_1).replace("\0", ""));
        }
        if (tape.length() + more.length() > 240) {
            return NONE;
        }
        tape += more;
        return tape.length();
    }

    boolean end(int n) {
        if (n < 0 || n > tape.length()) {
            return false;
        }
        tape = tape.substring(0, n);
        return true;
    }

    int fault(int sort) {
        switch (sort) {
            case 0: return landingFault(tape);
            case 1: return lawFault(tape);
            case 2: return weekFault(tape);
            default: return -2;
        }
    }

    private static final Map<String, int[]> ITEMS = new HashMap<>();

    static {
        ITEMS.put("sc", new int[] {0, 99, 10});
        ITEMS.put("se", new int[] {1, 99, 25});
        ITEMS.put("sl", new int[] {0, 30, 8});
        ITEMS.put("bp", new int[] {1, 9, 4});
        ITEMS.put("bc", new int[] {0, 9, 3});
        ITEMS.put("bk", new int[] {0, 3, 0});
        ITEMS.put("hn", new int[] {0, 9, 2});
        ITEMS.put("hs", new int[] {1, 40, 15});
        ITEMS.put("hv", new int[] {0, 9, 5});
    }

    private static boolean digit(char c) {
        return c >= '0' && c <= '9';
    }

    /** One sign after the other: what may stand there is told by what stood ahead. */
    private static int landingFault(String t) {
        char clause = 0;
        char item = 0;
        String there = "";
        String number = "";
        int s = 0;
        int b = 0;
        int h = 0;
        for (int i = 0; i < t.length(); i++) {
            char c = t.charAt(i);
            boolean touches = i > 0 && digit(t.charAt(i - 1));
            if (c == ' ') {
                continue;
            }
            if (clause == 0) {
                if (c == 's' && s < 1) {
                    s++;
                } else if (c == 'b' && b < 6) {
                    b++;
                } else if (c == 'h' && h < 6) {
                    h++;
                } else {
                    return i;
                }
                clause = c;
                there = "";
                item = 0;
                number = "";
            } else if (digit(c)) {
                if (item == 0 || number.length() > 0 && !touches || number.length() == 2) {
                    return i;
                }
                number += c;
                boolean last = i + 1 == t.length() || !digit(t.charAt(i + 1));
                int[] bounds = ITEMS.get("" + clause + item);
                if (last && (Integer.parseInt(number) < bounds[0] || Integer.parseInt(number) > bounds[1])) {
                    return i;
                }
            } else if (item != 0 && number.isEmpty()) {
                return i;
            } else if (c == ';') {
                clause = 0;
            } else if (ITEMS.containsKey("" + clause + c) && there.indexOf(c) < 0) {
                there += c;
                item = c;
                number = "";
            } else {
                return i;
            }
        }
        boolean whole = clause != 0 && (item == 0 || !number.isEmpty()) && b > 0 && h > 0;
        return whole ? NONE : t.length();
    }

    private static int weekFault(String t) {
        int steps = 0;
        int digits = 0;
        boolean in = false;
        for (int i = 0; i < t.length(); i++) {
            char c = t.charAt(i);
            if (c == ' ') {
                continue;
            }
            if (!in) {
                int sort = "rkmng".indexOf(c);
                if (sort < 0) {
                    return i;
                }
                digits = new int[] {2, 2, 0, 0, 1}[sort];
                steps++;
                in = true;
            } else if (digits > 0) {
                if (!digit(c)) {
                    return i;
                }
                digits--;
            } else if (c == ';' && steps < 16) {
                in = false;
            } else {
                return i;
            }
        }
        return in && digits == 0 ? NONE : t.length();
    }

    /**
     * mode: y : awaited; o an ATOM awaited; a behind an ATOM; u a UNIT awaited; d behind a UNIT in ( ).
     * side: B the first SUM behind : (a CLAUSE's or a CONDITION's), L ahead of = < >, R behind, S behind ?.
     */
    private static int lawFault(String t) {
        String open = "";
        char mode = 'y';
        char side = 'B';
        boolean first = false;
        for (int i = 0; i < t.length(); i++) {
            char c = t.charAt(i);
            if (c == ' ') {
                continue;
            }
            boolean inSum = open.endsWith("[");
            if (mode == 'y' || mode == ':') {
                if (c != mode) {
                    return i;
                }
                first = c == ':';
                mode = first ? 'u' : ':';
                side = 'B';
            } else if ((mode == 'u') && (c == '!' || c == '(')) {
                if (open.length() == 6) {
                    return i;
                }
                open += c;
                side = 'L';
            } else if (mode == 'u' || mode == 'o') {
                if (mode == 'u' && side != 'B') {
                    side = 'L';
                }
                if (c == '[') {
                    if (open.length() == 6) {
                        return i;
                    }
                    open += c;
                    mode = 'o';
                } else if (digit(c) || "cvbpnt".indexOf(c) >= 0) {
                    mode = 'a';
                    for (int more = 1; digit(c) && i + 1 < t.length() && digit(t.charAt(i + 1)); more++) {
                        i++;
                        if (more == 4) {
                            return i;
                        }
                    }
                } else {
                    return i;
                }
            } else if (mode == 'a' && "+-*/".indexOf(c) >= 0) {
                mode = 'o';
            } else if (mode == 'a' && inSum) {
                if (c != ']') {
                    return i;
                }
                open = open.substring(0, open.length() - 1);
            } else if (mode == 'a' && (side == 'B' || side == 'L') && "=<>".indexOf(c) >= 0) {
                side = 'R';
                mode = 'o';
            } else if (mode == 'a' && (side == 'B' || side == 'S') && c == ';') {
                mode = 'y';
            } else if ((mode == 'd' || mode == 'a' && side == 'R') && "&|?)".indexOf(c) >= 0) {
                while (open.endsWith("!")) {
                    open = open.substring(0, open.length() - 1);
                }
                if (c == ')' || c == '?') {
                    if (open.isEmpty() != (c == '?')) {
                        return i;
                    }
                    open = c == '?' ? open : open.substring(0, open.length() - 1);
                    mode = c == '?' ? 'o' : 'd';
                    side = c == '?' ? 'S' : 'R';
                } else {
                    mode = 'u';
                    side = 'L';
                }
            } else {
                return i;
            }
        }
        return mode == 'a' && open.isEmpty() && (side == 'B' || side == 'S') ? NONE : t.length();
    }

    int text(int sort) {
        if (fault(sort) != NONE || sort == 1 && laws.size() == 4 || sort == 2 && weeks.size() == 4) {
            return NONE;
        }
        String told = tape.replace(" ", "");
        tape = "";
        if (sort == 1) {
            laws.add(told);
            return laws.size() - 1;
        }
        if (sort == 2) {
            weeks.add(told);
            return weeks.size() - 1;
        }
        books = new ArrayList<>();
        houses = new ArrayList<>();
        int[] rules = {10, 25, 8};
        for (String clause : told.split(";")) {
            String letters = clause.charAt(0) == 's' ? "cel" : clause.charAt(0) == 'b' ? "pck" : "nsv";
            int[] numbers = new int[3];
            for (int i = 0; i < 3; i++) {
                numbers[i] = ITEMS.get("" + clause.charAt(0) + letters.charAt(i))[2];
                int at = clause.indexOf(letters.charAt(i), 1);
                if (at > 0) {
                    int to = at + 1;
                    while (to < clause.length() && digit(clause.charAt(to))) {
                        to++;
                    }
                    numbers[i] = Integer.parseInt(clause.substring(at + 1, to));
                }
            }
            if (clause.charAt(0) == 's') {
                rules = numbers;
            } else {
                (clause.charAt(0) == 'b' ? books : houses).add(numbers);
            }
        }
        enough = rules[1];
        loses = rules[2];
        now = new State();
        now.calm = rules[0];
        now.tired = new int[houses.size()];
        now.turns = new int[houses.size()];
        now.voice = new int[houses.size()];
        for (int i = 0; i < houses.size(); i++) {
            now.voice[i] = houses.get(i)[2];
        }
        image = null;
        acts = new ArrayDeque<>();
        seen = new ArrayList<>();
        return houses.size();
    }

    // ---- what a page does

    private static int hold(long value) {
        return (int) Math.max(-1000000, Math.min(1000000, value));
    }

    /** Cuts a text at those signs that stand in no bracket; what is cut at stands behind each piece but the last. */
    private static List<String> cut(String text, String at) {
        List<String> pieces = new ArrayList<>();
        int depth = 0;
        int from = 0;
        for (int i = 0; i < text.length(); i++) {
            char c = text.charAt(i);
            depth += c == '(' || c == '[' ? 1 : c == ')' || c == ']' ? -1 : 0;
            if (depth == 0 && at.indexOf(c) >= 0) {
                pieces.add(text.substring(from, i));
                pieces.add("" + c);
                from = i + 1;
            }
        }
        pieces.add(text.substring(from));
        return pieces;
    }

    private static int sum(String text, Map<Character, Integer> letters) {
        List<String> pieces = cut(text, "+-");
        int value = term(pieces.get(0), letters);
        for (int i = 1; i < pieces.size(); i += 2) {
            int next = term(pieces.get(i + 1), letters);
            value = hold(pieces.get(i).equals("+") ? value + next : value - next);
        }
        return value;
    }

    private static int term(String text, Map<Character, Integer> letters) {
        List<String> pieces = cut(text, "*/");
        int value = atom(pieces.get(0), letters);
        for (int i = 1; i < pieces.size(); i += 2) {
            int next = atom(pieces.get(i + 1), letters);
            value = hold(pieces.get(i).equals("*") ? (long) value * next : next == 0 ? 0 : value / next);
        }
        return value;
    }

    private static int atom(String text, Map<Character, Integer> letters) {
        if (text.startsWith("[")) {
            return sum(text.substring(1, text.length() - 1), letters);
        }
        return digit(text.charAt(0)) ? Integer.parseInt(text) : letters.get(text.charAt(0));
    }

    private static boolean condition(String text, Map<Character, Integer> letters) {
        List<String> truths = cut(text, "|");
        for (int i = 0; i < truths.size(); i += 2) {
            List<String> units = cut(truths.get(i), "&");
            boolean all = true;
            for (int j = 0; j < units.size(); j += 2) {
                all &= unit(units.get(j), letters);
            }
            if (all) {
                return true;
            }
        }
        return false;
    }

    private static boolean unit(String text, Map<Character, Integer> letters) {
        if (text.startsWith("!")) {
            return !unit(text.substring(1), letters);
        }
        if (text.startsWith("(")) {
            return condition(text.substring(1, text.length() - 1), letters);
        }
        List<String> sides = cut(text, "=<>");
        int left = sum(sides.get(0), letters);
        int right = sum(sides.get(2), letters);
        return sides.get(1).equals("=") ? left == right : sides.get(1).equals("<") ? left < right : left > right;
    }

    private int worth(int book, int voice, int bored, int page, int night, int tired) {
        int c = books.get(book)[1];
        int value = c + voice / 3 - bored;
        if (holds != NONE) {
            Map<Character, Integer> letters = new HashMap<>();
            letters.put('c', c);
            letters.put('v', voice);
            letters.put('b', bored);
            letters.put('p', page);
            letters.put('n', night);
            letters.put('t', tired);
            value = 0;
            for (String clause : laws.get(holds).split(";")) {
                String[] parts = clause.substring(2).split("\\?");
                if (parts.length == 1 || condition(parts[0], letters)) {
                    value = sum(parts[parts.length - 1], letters);
                    break;
                }
            }
        }
        return Math.max(-9, Math.min(20, value));
    }

    private static int calmHeld(int calm) {
        return Math.max(0, Math.min(99, calm));
    }

    // ---- ACTS, on any state

    private boolean noBook(int book) {
        return book < 0 || book >= books.size();
    }

    private boolean noHouse(int house) {
        return house < 0 || house >= houses.size();
    }

    private boolean readIn(State s, int book, int pages, boolean skip, boolean though) {
        if (noBook(book) || pages < (skip ? 2 : 1) || pages > books.get(book)[0] || !though && s.read.contains(book)) {
            return false;
        }
        int heard = skip ? pages - 1 : pages;
        if (s.tired[s.where] + heard > houses.get(s.where)[1]) {
            return false;
        }
        int kind = books.get(book)[2];
        for (int page = 0; page < heard; page++) {
            s.calm = calmHeld(s.calm + worth(book, s.voice[s.where], s.bored[kind], page, s.night, s.tired[s.where]));
            s.tired[s.where]++;
        }
        if (skip) {
            s.calm = calmHeld(s.calm - 5);
        }
        s.bored[kind] = Math.min(9, s.bored[kind] + 1);
        s.read.add(book);
        return true;
    }

    private boolean milkIn(State s) {
        if (houses.isEmpty() || s.milk) {
            return false;
        }
        s.calm = calmHeld(s.calm + 3);
        s.milk = true;
        return true;
    }

    private boolean goIn(State s, int house) {
        if (noHouse(house) || s.where == house || s.went) {
            return false;
        }
        s.where = house;
        s.went = true;
        return true;
    }

    private int nightIn(State s) {
        int children = houses.get(s.where)[0];
        boolean calmEnough = s.calm >= enough;
        int sleeping = calmEnough ? children : 0;
        s.log.add(0, new int[] {s.where, s.calm, sleeping});
        if (s.log.size() > 60) {
            s.log.remove(60);
        }
        s.slept += sleeping;
        s.awake += children - sleeping;
        s.calm = calmHeld(s.calm - loses);
        if (!calmEnough) {
            s.calm = calmHeld(s.calm - 2);
        }
        for (int i = 0; i < s.tired.length; i++) {
            s.tired[i] = Math.max(0, s.tired[i] - 6);
        }
        for (int i = 0; i < 4; i++) {
            s.bored[i] = Math.max(0, s.bored[i] - 1);
        }
        s.read.clear();
        s.milk = false;
        s.went = false;
        s.turns[s.where]++;
        s.where = (s.where + 1) % houses.size();
        s.night++;
        return sleeping;
    }

    /** How many slept, or NONE: it can't be. */
    private int stepIn(State s, String step) {
        int first = step.length() > 1 ? step.charAt(1) - '0' : NONE;
        int second = step.length() > 2 ? step.charAt(2) - '0' : NONE;
        switch (step.charAt(0)) {
            case 'r': return readIn(s, first, second, false, false) ? 0 : NONE;
            case 'k': return readIn(s, first, second, true, false) ? 0 : NONE;
            case 'm': return milkIn(s) ? 0 : NONE;
            case 'n': return s.night >= 9999 ? NONE : nightIn(s);
            default: return goIn(s, first) ? 0 : NONE;
        }
    }

    private void become(State next) {
        acts.push(now);
        if (acts.size() > 40) {
            acts.removeLast();
        }
        now = next;
    }

    private boolean none() {
        return houses.isEmpty();
    }

    // ---- the face

    int rule(int what) {
        return none() || what < 0 || what > 2 ? NONE : what == 0 ? now.calm : what == 1 ? enough : loses;
    }

    int tome(int book, int what) {
        if (noBook(book) || what < 0 || what > 3) {
            return NONE;
        }
        return what < 3 ? books.get(book)[what] : now.read.contains(book) ? 1 : 0;
    }

    int house(int house, int what) {
        if (noHouse(house) || what < 0 || what > 4) {
            throw new NoSuchElementException();
        }
        if (what < 2) {
            return houses.get(house)[what];
        }
        return (what == 2 ? now.voice : what == 3 ? now.tired : now.turns)[house];
    }

    int bored(int kind) {
        return none() || kind < 0 || kind > 3 ? NONE : now.bored[kind];
    }

    boolean law(int law) {
        if (law < -1 || law >= laws.size()) {
            return false;
        }
        holds = law;
        return true;
    }

    boolean hush(int v) {
        if (v < 0 || v > 9 || v == hush) {
            return false;
        }
        hush = v;
        return true;
    }

    int read(int book, int pages, boolean skip) {
        State s = none() ? null : now.copy();
        if (none() || !readIn(s, book, pages, skip, false)) {
            return NONE;
        }
        become(s);
        return s.calm;
    }

    int milk() {
        State s = none() ? null : now.copy();
        if (none() || !milkIn(s)) {
            return NONE;
        }
        become(s);
        return s.calm;
    }

    int goes(int house) {
        State s = none() ? null : now.copy();
        if (none() || !goIn(s, house)) {
            return NONE;
        }
        become(s);
        return house;
    }

    int voice(int house, int v) {
        if (noHouse(house) || v < 0 || v > 9 || now.voice[house] == v) {
            return NONE;
        }
        State s = now.copy();
        s.voice[house] = v;
        int before = now.voice[house];
        become(s);
        return before;
    }

    int night() {
        if (none() || now.night >= 9999) {
            return NONE;
        }
        State s = now.copy();
        int sleeping = nightIn(s);
        become(s);
        return sleeping;
    }

    private int draw(int j) {
        x = x * 6364136223846793005L + 1442695040888963407L;
        return (int) ((x >>> 33) % j);
    }

    int years(int n, long seed) {
        if (none() || n < 1 || n > 30 || now.night + n > 9999) {
            return NONE;
        }
        x = seed;
        for (int i = 0; i < n; i++) {
            State s = now.copy();
            for (int twice = 0; twice < 2; twice++) {
                int book = draw(books.size());
                int pages = draw(9) + 1;
                readIn(s, book, Math.min(pages, books.get(book)[0]), false, false);
            }
            if (draw(10) < hush) {
                milkIn(s);
            }
            nightIn(s);
            become(s);
        }
        return now.night;
    }

    int undo() {
        if (acts.isEmpty()) {
            return NONE;
        }
        now = acts.pop();
        return acts.size();
    }

    int log(int i, int what) {
        return i < 0 || i >= now.log.size() || what < 0 || what > 2 ? NONE : now.log.get(i)[what];
    }

    int step(int week, int i, int what) {
        if (week < 0 || week >= weeks.size() || what < 0 || what > 2) {
            return HIDDEN;
        }
        String[] steps = weeks.get(week).split(";");
        if (i < 0 || i >= steps.length) {
            return HIDDEN;
        }
        if (what == 0) {
            return "rkmng".indexOf(steps[i].charAt(0));
        }
        return steps[i].length() > what ? steps[i].charAt(what) - '0' : NONE;
    }

    int run(int week, int what) {
        if (none() || week < 0 || week >= weeks.size() || what < 0 || what > 1) {
            return HIDDEN;
        }
        State s = now.copy();
        String[] steps = weeks.get(week).split(";");
        int sleeping = 0;
        for (int i = 0; i < steps.length; i++) {
            int slept = stepIn(s, steps[i]);
            if (slept == NONE) {
                return what == 0 ? i : sleeping;
            }
            sleeping += slept;
        }
        return what == 0 ? NONE : sleeping;
    }

    int perform(int week) {
        if (none() || week < 0 || week >= weeks.size()) {
            return NONE;
        }
        int done = 0;
        for (String step : weeks.get(week).split(";")) {
            State s = now.copy();
            if (stepIn(s, step) == NONE) {
                break;
            }
            become(s);
            done++;
        }
        return done;
    }

    int calms(int book, int pages) {
        State s = none() ? null : now.copy();
        return !none() && readIn(s, book, pages, false, true) ? s.calm : NONE;
    }

    private int leastPages;
    private long leastRow;

    private void tryRows(State s, int many, int pages, long row) {
        if (s.calm >= enough) {
            if (pages < leastPages || pages == leastPages && row < leastRow) {
                leastPages = pages;
                leastRow = row;
            }
        }
        for (int book = 0; many < 3 && book < books.size(); book++) {
            for (int n = 1; n <= books.get(book)[0]; n++) {
                State next = s.copy();
                if (readIn(next, book, n, false, false)) {
                    tryRows(next, many + 1, pages + n, row * 100 + 10 * book + n);
                }
            }
        }
    }

    int least(int what) {
        if (none() || what < 0 || what > 1) {
            return NONE;
        }
        leastPages = 1000;
        leastRow = NONE;
        State s = now.copy();
        s.log = new ArrayList<>();
        tryRows(s, 0, 0, 0);
        return leastRow == NONE ? NONE : what == 0 ? leastPages : (int) leastRow;
    }

    int best(int pages, int what) {
        int book = NONE;
        int calm = NONE;
        for (int b = 0; b < books.size(); b++) {
            State s = now.copy();
            if (pages >= 1 && pages <= 9 && readIn(s, b, pages, false, false) && s.calm > calm) {
                book = b;
                calm = s.calm;
            }
        }
        return what == 0 ? book : what == 1 ? calm : NONE;
    }

    private int rosterMost;
    private int rosterRow;

    private void tryRosters(State s, int book, String row, int slept) {
        if (row.length() == houses.size()) {
            if (slept > rosterMost || slept == rosterMost && Integer.parseInt(row) < rosterRow) {
                rosterMost = slept;
                rosterRow = Integer.parseInt(row);
            }
            return;
        }
        for (int house = houses.size() - 1; house >= 0; house--) {
            if (row.indexOf('0' + house) < 0) {
                State next = s.copy();
                next.where = house;
                readIn(next, book, books.get(book)[0], false, false);
                int more = nightIn(next);
                tryRosters(next, book, row + house, slept + more);
            }
        }
    }

    int roster(int book, int what) {
        if (noBook(book) || what < 0 || what > 1) {
            return NONE;
        }
        rosterMost = -1;
        State s = now.copy();
        s.log = new ArrayList<>();
        tryRosters(s, book, "", 0);
        return what == 0 ? rosterRow : rosterMost;
    }

    int seen(int book, int pages, int house, int v, boolean had) {
        if (noBook(book) || noHouse(house) || pages < 1 || pages > books.get(book)[0] || v < 0 || v > 99
                || seen.size() == 10) {
            return NONE;
        }
        seen.add(new int[] {book, pages, house, v, had ? 1 : 0});
        return seen.size();
    }

    private int calmFor(int taste, int book, int pages, int house) {
        int calm = 0;
        for (int page = 0; page < pages; page++) {
            int worth = worth(book, now.voice[house], 0, page, 0, page);
            calm = calmHeld(calm + (books.get(book)[2] == taste ? Math.min(20, worth + 3) : worth));
        }
        return calm;
    }

    private List<Integer> tastes() {
        List<Integer> fitting = new ArrayList<>();
        for (int taste : new int[] {0, 1, 2, 3, 9}) {
            boolean fits = true;
            for (int[] s : seen) {
                fits &= calmFor(taste, s[0], s[1], s[2]) >= s[3] == (s[4] == 1);
            }
            if (fits) {
                fitting.add(taste);
            }
        }
        return fitting;
    }

    private static int pick(List<Integer> list, int i) {
        return i == NONE ? list.size() : i < 0 || i >= list.size() ? NONE : list.get(i);
    }

    int likes(int i) {
        return none() ? NONE : pick(tastes(), i);
    }

    int probe(int house, int v) {
        if (noHouse(house) || v < 0 || v > 99 || tastes().isEmpty()) {
            return NONE;
        }
        int best = NONE;
        int least = 100;
        for (int book = 0; book < books.size(); book++) {
            int yes = 0;
            int no = 0;
            for (int taste : tastes()) {
                if (calmFor(taste, book, books.get(book)[0], house) >= v) {
                    yes++;
                } else {
                    no++;
                }
            }
            if (Math.abs(yes - no) < least) {
                least = Math.abs(yes - no);
                best = book;
            }
        }
        return best;
    }

    int which(int v, int i) {
        if (none() || v < 0 || v > 99) {
            return NONE;
        }
        List<Integer> sets = new ArrayList<>();
        for (int set = 0; set < 1 << books.size(); set++) {
            State s = now.copy();
            boolean can = true;
            for (int book = 0; book < books.size(); book++) {
                if ((set & 1 << book) != 0) {
                    can = can && readIn(s, book, books.get(book)[0], false, false);
                }
            }
            if (can && s.calm == v) {
                sets.add(set);
            }
        }
        return pick(sets, i);
    }

    private boolean alike(int one, int other, int book) {
        return noHouse(one) || noHouse(other) || one == other || noBook(book);
    }

    int game(int one, int other, int book, int x, int y, int what) {
        if (alike(one, other, book) || what < 0 || what > 1 || x < 0 || y < 0 || x > books.get(book)[0]
                || y > books.get(book)[0]) {
            return HIDDEN;
        }
        int kind = books.get(book)[2];
        int calm = now.calm;
        for (int p = 0; p < x; p++) {
            calm = calmHeld(calm + worth(book, now.voice[one], now.bored[kind], p, now.night, now.tired[one] + p));
        }
        int bored = x > 0 ? Math.min(9, now.bored[kind] + 1) : now.bored[kind];
        for (int p = 0; p < y; p++) {
            calm = calmHeld(calm + worth(book, now.voice[other], bored, p, now.night, now.tired[other] + p));
        }
        int own = what == 0 ? x : y;
        int others = what == 0 ? y : x;
        return (calm >= enough ? 9 : own < others ? -2 : 0) - own;
    }

    int rests(int one, int other, int book, int i) {
        if (alike(one, other, book)) {
            return NONE;
        }
        List<Integer> rests = new ArrayList<>();
        int pages = books.get(book)[0];
        for (int x = 0; x <= pages; x++) {
            for (int y = 0; y <= pages; y++) {
                boolean rest = true;
                for (int z = 0; z <= pages && rest; z++) {
                    rest = game(one, other, book, z, y, 0) <= game(one, other, book, x, y, 0)
                            && game(one, other, book, x, z, 1) <= game(one, other, book, x, y, 1);
                }
                if (rest) {
                    rests.add(10 * x + y);
                }
            }
        }
        return pick(rests, i);
    }

    int odds(int house, int chance) {
        if (noHouse(house) || chance < 0 || chance > 100) {
            return NONE;
        }
        long parts = 1000000;
        for (int child = 0; child < houses.get(house)[0]; child++) {
            long sick = parts * chance / 100;
            parts = parts - sick;
        }
        return (int) parts;
    }

    int lasts(int book) {
        if (noBook(book)) {
            return NONE;
        }
        State s = now.copy();
        int where = s.where;
        int kind = books.get(book)[2];
        for (int often = 0; often < 20; often++) {
            for (int p = 0; p < books.get(book)[0]; p++) {
                s.calm = calmHeld(s.calm + worth(book, s.voice[where], s.bored[kind], p, s.night, 0));
            }
            s.bored[kind] = Math.min(9, s.bored[kind] + 1);
            if (s.calm < enough) {
                return often;
            }
            nightIn(s);
            s.where = where;
        }
        return 20;
    }

    int quiet() {
        if (none()) {
            return NONE;
        }
        State s = now.copy();
        for (int nights = 0; nights <= 60; nights++) {
            if (s.calm == 0) {
                return nights;
            }
            nightIn(s);
        }
        return NONE;
    }

    /** The index of the greatest, the first of several. */
    private static int greatest(int[] row) {
        int best = 0;
        for (int i = 0; i < row.length; i++) {
            if (row[i] > row[best]) {
                best = i;
            }
        }
        return best;
    }

    int all(int what) {
        if (none() || what < 0 || what > 7) {
            return NONE;
        }
        int[] row = new int[what == 5 ? books.size() : houses.size()];
        int bits = 0;
        for (int i = 0; i < row.length && what < 6; i++) {
            row[i] = what == 0 ? -now.turns[i] : what == 2 ? left(i) : what == 3 ? now.voice[i]
                    : what == 4 ? houses.get(i)[0] : what == 5 ? books.get(i)[0] : 0;
        }
        for (int i = 0; i < 4 && what == 6; i++) {
            bits += now.bored[i] == 0 ? 1 << i : 0;
        }
        for (int i = 0; i < books.size() && what == 7; i++) {
            bits += readIn(now.copy(), i, books.get(i)[0], false, false) ? 1 << i : 0;
        }
        return what == 1 ? (now.calm >= enough ? 1 : 0) : what > 5 ? bits : greatest(row);
    }

    int pages(int kind) {
        if (none() || kind < 0 || kind > 3) {
            return NONE;
        }
        int sum = 0;
        for (int[] book : books) {
            if (book[2] == kind) {
                sum += book[0];
            }
        }
        return sum;
    }

    int left(int house) {
        return noHouse(house) ? NONE : houses.get(house)[1] - now.tired[house];
    }

    int image() {
        if (none()) {
            return NONE;
        }
        image = now.copy();
        return image.night;
    }

    int back() {
        if (image == null) {
            return NONE;
        }
        now = image.copy();
        acts.clear();
        return now.night;
    }

    int count(int what) {
        switch (what) {
            case 0: return houses.size();
            case 1: return books.size();
            case 2: return laws.size();
            case 3: return weeks.size();
            case 4: return tape.length();
            case 5: return holds;
            case 6: return now.night;
            case 7: return now.where;
            case 8: return now.slept;
            case 9: return now.awake;
            case 10: return now.milk ? 1 : 0;
            case 11: return now.went ? 1 : 0;
            case 12: return hush;
            case 13: return seen.size();
            case 14: return now.log.size();
            case 15: return acts.size();
            default: return HIDDEN;
        }
    }
}

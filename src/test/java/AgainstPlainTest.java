import java.lang.reflect.InvocationTargetException;
import java.lang.reflect.Method;
import java.util.HashMap;
import java.util.Map;
import java.util.Random;

/** Many random runs of calls, each call asked of MonsterCot and of PlainCot. */
final class AgainstPlainTest {
    /** What an object answers beyond so many calls is free. */
    private static final int MOST_CALLS = 512;
    private static final String[] CALLS = {
        "feed", "end", "fault", "text", "rule", "tome", "house", "bored", "law", "hush", "read", "milk", "goes",
        "voice", "night", "years", "undo", "log", "step", "run", "perform", "calms", "least", "best", "roster", "seen",
        "likes", "probe", "which", "game", "rests", "odds", "lasts", "quiet", "all", "pages", "left", "image", "back",
        "count"};

    private final Random random;
    private final Map<String, Method> ofCot = new HashMap<>();
    private final Map<String, Method> ofPlain = new HashMap<>();
    private MonsterCot cot;
    private PlainCot plain;
    private boolean big;
    private int wrong;
    private int made;
    private long asked;
    private StringBuilder story = new StringBuilder();

    private AgainstPlainTest(long seed) {
        random = new Random(seed);
        for (Method m : MonsterCot.class.getDeclaredMethods()) {
            ofCot.put(m.getName(), m);
        }
        for (Method m : PlainCot.class.getDeclaredMethods()) {
            ofPlain.put(m.getName(), m);
        }
    }

    public static void main(String[] args) {
        if (args.length == 0) {
            Due.failIfItGoesOn();
        }
        int runs = args.length > 0 ? Integer.parseInt(args[0]) : 900;
        long seed = args.length > 1 ? Long.parseLong(args[1]) : 20261118;
        AgainstPlainTest test = new AgainstPlainTest(seed);
        for (int run = 0; run < runs && test.wrong < 3; run++) {
            test.oneRun(run);
        }
        test.manyTexts(runs * 40);
        System.out.println(test.asked + " calls asked of both, " + test.wrong + " answered unlike");
        if (test.wrong != 0 || test.asked == 0) {
            System.exit(1);
        }
    }

    // ---- a run

    private void fresh() {
        cot = new MonsterCot();
        plain = new PlainCot();
        made = 0;
        story = new StringBuilder();
    }

    private void oneRun(int run) {
        fresh();
        big = run % 25 == 0;
        int before = wrong;
        int calls = 20 + random.nextInt(200);
        boolean late = run % 100 == 7;
        if (late || random.nextInt(10) != 0) {
            land();
        }
        if (late) {
            lateNights();
        }
        for (int i = 0; i < calls && wrong == before && made < MOST_CALLS; i++) {
            int what = late ? 5 + random.nextInt(95) : random.nextInt(100);
            if (what < 2) {
                land();
            } else if (what < 5) {
                type(maybeSpoilt(law()));
                ask("fault", 1);
                ask("text", 1);
                ask("law", random.nextInt(5) - 1);
            } else if (what < 8) {
                type(maybeSpoilt(week()));
                ask("fault", 2);
                ask("text", 2);
            } else if (what < 45) {
                act();
            } else {
                any();
            }
            if (i % 16 == 0) {
                lookAround();
            }
        }
        lookAround();
    }

    /** Near to the last NIGHT, with a LAW by which the NIGHT matters. */
    private void lateNights() {
        type("y:n>9999?c-n+9999;y:v-t+n-9995");
        ask("text", 1);
        ask("law", 0);
        for (int i = 0; i < 333; i++) {
            ask("years", 30, (long) i);
        }
        ask("years", 1 + random.nextInt(9), 1L);
    }

    private void land() {
        type(maybeSpoilt(landing()));
        ask("fault", 0);
        ask("text", 0);
    }

    private void act() {
        switch (random.nextInt(9)) {
            case 0: case 1: case 2: ask("read", near(0, 5), near(1, big ? 9 : 4), random.nextInt(4) == 0); break;
            case 3: ask("milk"); break;
            case 4: ask("goes", near(0, 5)); break;
            case 5: ask("voice", near(0, 5), near(0, 9)); break;
            case 6: ask("night"); break;
            case 7: ask("perform", near(0, 3)); break;
            default:
                if (random.nextInt(3) == 0) {
                    ask("years", near(1, random.nextInt(2) == 0 ? 3 : 30), random.nextLong());
                } else {
                    ask("undo");
                }
        }
    }

    private void any() {
        String call = CALLS[random.nextInt(CALLS.length)];
        switch (call) {
            case "feed": ask(call, random.nextInt(), random.nextInt(), 0, random.nextInt() & 0xff00ff, 7); break;
            case "end": ask(call, near(0, plain.count(4))); break;
            case "fault": case "text": ask(call, near(0, 2)); break;
            case "rule": ask(call, near(0, 2)); break;
            case "tome": ask(call, near(0, 5), near(0, 3)); break;
            case "house": ask(call, near(0, 5), near(0, 4)); break;
            case "bored": case "pages": ask(call, near(0, 3)); break;
            case "law": ask(call, near(-1, 3)); break;
            case "hush": ask(call, near(0, 9)); break;
            case "read": ask(call, near(0, 5), near(1, 9), random.nextBoolean()); break;
            case "goes": case "left": case "lasts": ask(call, near(0, 5)); break;
            case "voice": ask(call, near(0, 5), near(0, 9)); break;
            case "years": ask(call, near(1, 30), (long) random.nextInt(5)); break;
            case "log": ask(call, near(0, random.nextBoolean() ? 3 : 60), near(0, 2)); break;
            case "step": ask(call, near(0, 3), near(0, 15), near(0, 2)); break;
            case "run": ask(call, near(0, 3), near(0, 1)); break;
            case "perform": ask(call, near(0, 3)); break;
            case "calms": ask(call, near(0, 5), near(1, 9)); break;
            case "least": ask(call, near(0, 1)); break;
            case "best": ask(call, near(1, 9), near(0, 1)); break;
            case "roster": ask(call, near(0, 5), near(0, 1)); break;
            case "seen": ask(call, near(0, 5), near(1, 4), near(0, 5), near(0, 40), random.nextBoolean()); break;
            case "likes": ask(call, near(-1, 4)); break;
            case "probe": ask(call, near(0, 5), near(0, 40)); break;
            case "which": which(); break;
            case "game": ask(call, near(0, 5), near(0, 5), near(0, 5), near(0, 9), near(0, 9), near(0, 1)); break;
            case "rests": ask(call, near(0, 3), near(0, 3), near(0, 5), near(-1, 6)); break;
            case "odds": ask(call, near(0, 5), near(0, 100)); break;
            case "all": ask(call, near(0, 7)); break;
            case "count": ask(call, near(0, 15)); break;
            default: ask(call);
        }
    }

    private void which() {
        for (int v = random.nextInt(20); v < 100; v += 7) {
            ask("which", v, near(-1, 5));
        }
        ask("which", near(0, 99), -1);
    }

    private void lookAround() {
        for (int i = 0; i < 16; i++) {
            ask("count", i);
        }
        for (int i = 0; i < 3; i++) {
            ask("rule", i);
            ask("log", random.nextInt(60), i);
        }
        for (int i = 0; i < 6; i++) {
            ask("tome", i, 3);
            for (int what = 2; what < 5; what++) {
                ask("house", i, what);
            }
        }
        for (int i = 0; i < 4; i++) {
            ask("bored", i);
        }
        for (int i = 0; i < 8; i++) {
            ask("all", i);
        }
    }

    /** Faults of texts alone, spoilt ones most of all. */
    private void manyTexts(int many) {
        for (int i = 0; i < many && wrong == 0; i++) {
            String text = i % 3 == 0 ? landing() : i % 3 == 1 ? law() : week();
            fresh();
            for (int spoilt = random.nextInt(4); spoilt > 0; spoilt--) {
                text = spoil(text);
            }
            type(text);
            ask("fault", 0);
            ask("fault", 1);
            ask("fault", 2);
        }
    }

    // ---- what is asked

    /** Mostly within, at times at the edge or far away. */
    private int near(int low, int high) {
        switch (random.nextInt(24)) {
            case 0: return low - 1;
            case 1: return high + 1;
            case 2: return random.nextBoolean() ? Integer.MIN_VALUE : Integer.MAX_VALUE;
            case 3: return random.nextInt();
            case 4: return high;
            default: return low + random.nextInt(high - low + 1);
        }
    }

    private static Object answer(Method method, Object target, Object[] args) {
        try {
            Object answer = method.invoke(target, args);
            return answer;
        } catch (InvocationTargetException e) {
            return "throws." + e.getCause().getClass().getSimpleName();
        } catch (IllegalAccessException e) {
            throw new IllegalStateException(e);
        }
    }

    private void ask(String call, Object... args) {
        if (made >= MOST_CALLS) {
            return;
        }
        made++;
        Object got = answer(ofCot.get(call), cot, args);
        Object due = answer(ofPlain.get(call), plain, args);
        asked++;
        story.append(call).append(java.util.Arrays.toString(args)).append(" = ").append(due).append('\n');
        if (!got.equals(due)) {
            wrong++;
            System.out.println(story + "... but MonsterCot answered " + got);
        }
    }

    private void type(String text) {
        ask("end", 0);
        story.append("text: ").append(text).append('\n');
        for (int from = 0; from < text.length(); from += 20) {
            int[] five = new int[5];
            for (int i = from; i < Math.min(from + 20, text.length()); i++) {
                five[(i - from) / 4] |= (text.charAt(i) & 255) << 24 - (i - from) % 4 * 8;
            }
            ask("feed", five[0], five[1], five[2], five[3], five[4]);
        }
    }

    // ---- texts

    private String blank() {
        return random.nextInt(30) == 0 ? " " : "";
    }

    private String maybeSpoilt(String text) {
        return random.nextInt(12) == 0 ? spoil(text) : text;
    }

    private String spoil(String text) {
        String signs = "sbhcelpknv0123456789;y:?!()[]+-*/=<>&|rmgtz ";
        String sign = "" + signs.charAt(random.nextInt(signs.length()));
        int at = random.nextInt(text.length() + 1);
        switch (random.nextInt(4)) {
            case 0: return text.substring(0, at);
            case 1: return text.substring(0, at) + sign + text.substring(at);
            case 2: return at < text.length() ? text.substring(0, at) + sign + text.substring(at + 1) : text + sign;
            default: return at < text.length() ? text.substring(0, at) + text.substring(at + 1) : text;
        }
    }

    private String landing() {
        int books = 1 + random.nextInt(big ? 6 : random.nextInt(4) == 0 ? 6 : 3);
        int houses = 1 + random.nextInt(random.nextInt(6) == 0 ? 6 : 4);
        java.util.List<String> clauses = new java.util.ArrayList<>();
        int mostPages = big ? 9 : books > 3 ? 2 : 4;
        for (int i = 0; i < books; i++) {
            clauses.add("b" + items("p", 1, mostPages, "c", 0, 9, "k", 0, random.nextInt(4), books > 3 && !big));
        }
        for (int i = 0; i < houses; i++) {
            clauses.add("h" + items("n", 0, 9, "s", 1, random.nextInt(3) == 0 ? 8 : 40, "v", 0, 9, false));
        }
        if (random.nextInt(5) != 0) {
            clauses.add("s" + items("c", 0, random.nextBoolean() ? 30 : 99, "e", 1, random.nextBoolean() ? 40 : 99, "l",
                    0, 30, false));
        }
        java.util.Collections.shuffle(clauses, random);
        return blank() + String.join(blank() + ";" + blank(), clauses) + blank();
    }

    private String items(String a, int la, int ha, String b, int lb, int hb, String c, int lc, int hc, boolean first) {
        java.util.List<String> items = new java.util.ArrayList<>();
        String[] letters = {a, b, c};
        int[] low = {la, lb, lc};
        int[] high = {ha, hb, hc};
        for (int i = 0; i < 3; i++) {
            int number = low[i] + random.nextInt(high[i] - low[i] + 1);
            String digits = random.nextInt(10) == 0 && number < 10 ? "0" + number : "" + number;
            if (first && i == 0 || random.nextInt(5) != 0) {
                items.add(letters[i] + blank() + digits);
            }
        }
        java.util.Collections.shuffle(items, random);
        return blank() + String.join(blank(), items);
    }

    private String law() {
        StringBuilder text = new StringBuilder();
        int clauses = 1 + random.nextInt(3);
        for (int i = 0; i < clauses; i++) {
            text.append(i > 0 ? ";" : "").append(blank()).append("y").append(blank()).append(":");
            if (random.nextInt(4) != 0) {
                text.append(condition(random.nextInt(3))).append(blank()).append("?");
            }
            text.append(sum(random.nextInt(3))).append(blank());
        }
        return text.length() <= 240 ? text.toString() : "y:c";
    }

    private String condition(int depth) {
        StringBuilder text = new StringBuilder(unit(depth));
        while (random.nextInt(3) == 0) {
            text.append(blank()).append(random.nextBoolean() ? "&" : "|").append(blank()).append(unit(depth));
        }
        return text.toString();
    }

    private String unit(int depth) {
        if (depth > 0 && random.nextInt(2) == 0) {
            return random.nextBoolean() ? "!" + unit(depth - 1) : "(" + condition(depth - 1) + ")";
        }
        return sum(depth - 1) + "=<>".charAt(random.nextInt(3)) + sum(depth - 1);
    }

    private String sum(int depth) {
        StringBuilder text = new StringBuilder(atom(depth));
        while (random.nextInt(5) < 2) {
            text.append(blank()).append("+-*/-*".charAt(random.nextInt(6))).append(blank()).append(atom(depth));
        }
        return text.toString();
    }

    private String atom(int depth) {
        if (depth > 0 && random.nextInt(3) == 0) {
            return "[" + sum(depth - 1) + "]";
        }
        if (random.nextInt(3) != 0) {
            return "" + "cvbpnt".charAt(random.nextInt(6));
        }
        return "" + random.nextInt(random.nextInt(6) == 0 ? 10000 : 12);
    }

    private String week() {
        StringBuilder text = new StringBuilder();
        int steps = 1 + random.nextInt(random.nextInt(8) == 0 ? 17 : 9);
        for (int i = 0; i < steps; i++) {
            text.append(i > 0 ? ";" : "").append(blank());
            switch (random.nextInt(6)) {
                case 0: text.append("n"); break;
                case 1: text.append("m"); break;
                case 2: text.append("g").append(blank()).append(random.nextInt(4)); break;
                case 3: text.append("k").append(random.nextInt(3)).append(blank()).append(2 + random.nextInt(3)); break;
                default: text.append("r").append(random.nextInt(3)).append(blank()).append(1 + random.nextInt(3));
            }
        }
        return text.append(blank()).toString();
    }
}

import java.nio.charset.StandardCharsets;
import java.util.NoSuchElementException;

/** What the tests share: counting wrong answers, and feeding texts. */
final class Due {
    static final int NONE = MonsterCot.NONE;
    static final int HIDDEN = MonsterCot.HIDDEN;
    /** What houseOf answers where house throws. */
    static final int THROWN = -2000000;

    private static final int MOST_SECONDS = 300;

    private int wrong;
    private int asked;
    private String part = "";

    Due() {
        failIfItGoesOn();
    }

    /** A call that does not end is a fault, too: the test fails then. */
    static void failIfItGoesOn() {
        Thread watch = new Thread(() -> {
            try {
                Thread.sleep(MOST_SECONDS * 1000L);
            } catch (InterruptedException e) {
                return;
            }
            System.out.println("a call does not end");
            Runtime.getRuntime().halt(1);
        });
        watch.setDaemon(true);
        watch.start();
    }

    void part(String name) {
        part = name;
    }

    void is(String call, long got, long want) {
        asked++;
        if (got != want) {
            wrong++;
            System.out.println(part + ": " + call + " answered " + got + ", due is " + want);
        }
    }

    void is(String call, String got, String want) {
        asked++;
        if (!got.equals(want)) {
            wrong++;
            System.out.println(part + ": " + call + " answered\n  " + got + "\n  due is\n  " + want);
        }
    }

    void is(String call, boolean got, boolean want) {
        is(call, got ? 1 : 0, want ? 1 : 0);
    }

    void end() {
        System.out.println(asked + " answers, " + wrong + " of them wrong");
        if (wrong != 0 || asked == 0) {
            System.exit(1);
        }
    }

    /** The TAPE is that text alone; what the last feed answered. */
    static int type(MonsterCot cot, String text) {
        cot.end(0);
        byte[] bytes = text.getBytes(StandardCharsets.ISO_8859_1);
        int answer = 0;
        for (int from = 0; from < bytes.length; from += 20) {
            int[] five = new int[5];
            for (int i = 0; i < 20; i++) {
                int sign = from + i < bytes.length ? bytes[from + i] & 255 : 0;
                five[i / 4] |= sign << 24 - i % 4 * 8;
            }
            answer = cot.feed(five[0], five[1], five[2], five[3], five[4]);
        }
        return answer;
    }

    static int keep(MonsterCot cot, int sort, String text) {
        type(cot, text);
        return cot.text(sort);
    }

    static int faultOf(MonsterCot cot, int sort, String text) {
        type(cot, text);
        return cot.fault(sort);
    }

    static int houseOf(MonsterCot cot, int house, int what) {
        try {
            return cot.house(house, what);
        } catch (NoSuchElementException e) {
            return THROWN;
        }
    }

    /** A new one with that LANDING and, if it is not empty, that LAW holding. */
    static MonsterCot cot(String landing, String law) {
        MonsterCot cot = new MonsterCot();
        if (keep(cot, 0, landing) < 1) {
            throw new IllegalArgumentException("a wrong landing in a test: " + landing);
        }
        if (!law.isEmpty() && (keep(cot, 1, law) != 0 || !cot.law(0))) {
            throw new IllegalArgumentException("a wrong law in a test: " + law);
        }
        return cot;
    }
}

import java.util.function.Supplier;
import java.util.function.ToLongFunction;

/** "What is refused answers as told and changes nothing", and what is only asked changes nothing, either. */
final class RefusedTest {
    private static final int NONE = Due.NONE;
    private static final int HIDDEN = Due.HIDDEN;
    private static final int THROWN = Due.THROWN;
    private static final int[] FAR = {Integer.MIN_VALUE, Integer.MAX_VALUE};

    private final Due due = new Due();
    private Supplier<MonsterCot> state = RefusedTest::none;

    public static void main(String[] args) {
        RefusedTest test = new RefusedTest();
        test.withoutLanding();
        test.textsThatAreWrong();
        test.noSuchOnes();
        test.actsThatCantBe();
        test.actsOutOfBounds();
        test.tooTired();
        test.apartOutOfBounds();
        test.whatIsFull();
        test.tooLate();
        test.whatIsAsked();
        test.looksAreUnlike();
        test.due.end();
    }

    // ---- objects to ask, each time a new one

    private static MonsterCot none() {
        MonsterCot cot = new MonsterCot();
        Due.keep(cot, 1, "y:c+1");
        cot.law(0);
        Due.keep(cot, 2, "m;n");
        cot.hush(3);
        Due.type(cot, "b;h;");
        return cot;
    }

    /** A NIGHT by, then BOOK 0 READ, MILK had, gone to HOUSE 0; an IMAGE from ahead of that; 10 of 15 left. */
    private static MonsterCot some() {
        MonsterCot cot = Due.cot("sc20e25l3;bp5c2;bp4c3k1;bp9c1k2;hn2s15v3;hn3s9v6", "y:c+v/3-b;y:9");
        Due.keep(cot, 1, "y:1");
        Due.keep(cot, 2, "r14;n;g9");
        cot.hush(3);
        cot.seen(0, 2, 1, 5, true);
        cot.night();
        cot.voice(1, 7);
        cot.image();
        cot.goes(0);
        cot.read(0, 5, false);
        cot.milk();
        Due.type(cot, "y:c;");
        return cot;
    }

    /** Four LAWS, four WEEKS, ten SEEN, 240 bytes, more than 60 NIGHTS and 40 ACTS. */
    private static MonsterCot full() {
        MonsterCot cot = Due.cot("sc99e50l2;bp4;h;hv1", "");
        for (int i = 0; i < 4; i++) {
            Due.keep(cot, 1, "y:" + (i + 1));
            Due.keep(cot, 2, "g" + i);
        }
        for (int i = 0; i < 10; i++) {
            cot.seen(0, 1, 0, i / 3, true);
        }
        for (int i = 0; i < 3; i++) {
            cot.years(30, i);
        }
        cot.image();
        Due.type(cot, "y:1" + ";y:2".repeat(59) + " ");
        return cot;
    }

    /** NIGHT 9,999; a few ACTS alone, so that a look at them all stays within 512 calls. */
    private static MonsterCot late() {
        MonsterCot cot = Due.cot("sc99e50l2;bp4;h;hv1", "");
        for (int i = 0; i < 333; i++) {
            cot.years(30, 2);
        }
        cot.image();
        cot.back();
        cot.years(9, 2);
        Due.keep(cot, 2, "n");
        return cot;
    }

    private void in(String name, Supplier<MonsterCot> made) {
        due.part(name);
        state = made;
    }

    /** It answers so, and the object is as one that was not asked. */
    private void refused(String call, long want, ToLongFunction<MonsterCot> asked) {
        MonsterCot cot = state.get();
        due.is(call, asked.applyAsLong(cot), want);
        due.is(call + " changes nothing", Look.of(cot), Look.of(state.get()));
    }

    private void refusedFlag(String call, java.util.function.Predicate<MonsterCot> asked) {
        refused(call, 0, cot -> asked.test(cot) ? 1 : 0);
    }

    // ---- what is refused

    private void withoutLanding() {
        in("no LANDING", RefusedTest::none);
        refused("rule", NONE, cot -> cot.rule(0));
        refused("tome", NONE, cot -> cot.tome(0, 0));
        refused("house", THROWN, cot -> Due.houseOf(cot, 0, 0));
        refused("bored", NONE, cot -> cot.bored(0));
        refused("read", NONE, cot -> cot.read(0, 1, false));
        refused("read, skip", NONE, cot -> cot.read(0, 2, true));
        refused("milk", NONE, MonsterCot::milk);
        refused("goes(0)", NONE, cot -> cot.goes(0));
        refused("goes(1)", NONE, cot -> cot.goes(1));
        refused("voice", NONE, cot -> cot.voice(0, 1));
        refused("night", NONE, MonsterCot::night);
        refused("years", NONE, cot -> cot.years(1, 1));
        refused("undo", NONE, MonsterCot::undo);
        refused("log", NONE, cot -> cot.log(0, 0));
        refused("run", HIDDEN, cot -> cot.run(0, 0));
        refused("perform", NONE, cot -> cot.perform(0));
        refused("calms", NONE, cot -> cot.calms(0, 1));
        refused("least", NONE, cot -> cot.least(0));
        refused("best", NONE, cot -> cot.best(1, 0));
        refused("roster", NONE, cot -> cot.roster(0, 0));
        refused("seen", NONE, cot -> cot.seen(0, 1, 0, 0, true));
        refused("likes", NONE, cot -> cot.likes(NONE));
        refused("probe", NONE, cot -> cot.probe(0, 0));
        refused("which", NONE, cot -> cot.which(0, NONE));
        refused("game", HIDDEN, cot -> cot.game(0, 1, 0, 0, 0, 0));
        refused("rests", NONE, cot -> cot.rests(0, 1, 0, NONE));
        refused("odds", NONE, cot -> cot.odds(0, 0));
        refused("lasts", NONE, cot -> cot.lasts(0));
        refused("quiet", NONE, MonsterCot::quiet);
        refused("all", NONE, cot -> cot.all(0));
        refused("pages", NONE, cot -> cot.pages(0));
        refused("left", NONE, cot -> cot.left(0));
        refused("image", NONE, MonsterCot::image);
        refused("back", NONE, MonsterCot::back);
    }

    private void textsThatAreWrong() {
        in("a FAULT", RefusedTest::some);
        for (int sort : new int[] {-1, 0, 1, 2, 3, FAR[0], FAR[1]}) {
            refused("text(" + sort + ")", NONE, cot -> cot.text(sort));
        }
        for (int sort : new int[] {-1, 3, FAR[0], FAR[1]}) {
            refused("fault(" + sort + ")", -2, cot -> cot.fault(sort));
        }
        for (int n : new int[] {-1, 5, 240, FAR[0], FAR[1]}) {
            refusedFlag("end(" + n + ")", cot -> cot.end(n));
        }
        in("a FAULT, no LANDING", RefusedTest::none);
        refused("text(0)", NONE, cot -> cot.text(0));
        refused("text(1)", NONE, cot -> cot.text(1));
        refused("text(2)", NONE, cot -> cot.text(2));
        for (int law : new int[] {-2, 1, 4, FAR[0], FAR[1]}) {
            refusedFlag("law(" + law + ")", cot -> cot.law(law));
        }
    }

    private void noSuchOnes() {
        in("no such ones", RefusedTest::some);
        for (int which : new int[] {-1, 9, FAR[0], FAR[1]}) {
            refused("rule(" + which + ")", NONE, cot -> cot.rule(which));
            refused("tome(" + which + ", 0)", NONE, cot -> cot.tome(which, 0));
            refused("tome(0, " + which + ")", NONE, cot -> cot.tome(0, which));
            refused("house(" + which + ", 0)", THROWN, cot -> Due.houseOf(cot, which, 0));
            refused("house(0, " + which + ")", THROWN, cot -> Due.houseOf(cot, 0, which));
            refused("bored(" + which + ")", NONE, cot -> cot.bored(which));
            refused("log(" + which + ", 0)", NONE, cot -> cot.log(which, 0));
            refused("log(0, " + which + ")", NONE, cot -> cot.log(0, which));
            refused("step(" + which + ", 0, 0)", HIDDEN, cot -> cot.step(which, 0, 0));
            refused("step(0, " + which + ", 0)", HIDDEN, cot -> cot.step(0, which, 0));
            refused("step(0, 0, " + which + ")", HIDDEN, cot -> cot.step(0, 0, which));
            refused("run(" + which + ", 0)", HIDDEN, cot -> cot.run(which, 0));
            refused("run(0, " + which + ")", HIDDEN, cot -> cot.run(0, which));
            refused("perform(" + which + ")", NONE, cot -> cot.perform(which));
            refused("all(" + which + ")", NONE, cot -> cot.all(which));
            refused("pages(" + which + ")", NONE, cot -> cot.pages(which));
            refused("left(" + which + ")", NONE, cot -> cot.left(which));
        }
        for (int what : new int[] {-1, 16, FAR[0], FAR[1]}) {
            refused("count(" + what + ")", HIDDEN, cot -> cot.count(what));
        }
        for (int law : new int[] {-2, 2, FAR[0], FAR[1]}) {
            refusedFlag("law(" + law + ")", cot -> cot.law(law));
        }
    }

    private void actsThatCantBe() {
        in("ACTS that can't be", RefusedTest::some);
        refused("READ again", NONE, cot -> cot.read(0, 1, false));
        refused("SKIPPED again", NONE, cot -> cot.read(0, 2, true));
        refused("MILK again", NONE, MonsterCot::milk);
        refused("it went", NONE, cot -> cot.goes(1));
        refused("it is there", NONE, cot -> cot.goes(0));
        refused("VOICE is so", NONE, cot -> cot.voice(1, 7));
        refusedFlag("HUSH is so", cot -> cot.hush(3));
        in("an IMAGE of another LANDING", () -> {
            MonsterCot cot = some();
            Due.keep(cot, 0, "b;h");
            return cot;
        });
        refused("back", NONE, MonsterCot::back);
        refused("undo", NONE, MonsterCot::undo);
        refused("the first STEP can't be", 0, cot -> cot.perform(0));
        in("none can be UNDONE", () -> {
            MonsterCot cot = some();
            cot.back();
            return cot;
        });
        refused("undo behind back", NONE, MonsterCot::undo);
    }

    private void actsOutOfBounds() {
        in("ACTS out of bounds", RefusedTest::some);
        for (int book : new int[] {-1, 3, FAR[0], FAR[1]}) {
            refused("read(" + book + ", 1)", NONE, cot -> cot.read(book, 1, false));
            refused("read(" + book + ", 2, skip)", NONE, cot -> cot.read(book, 2, true));
        }
        for (int pages : new int[] {-1, 0, 5, FAR[0], FAR[1]}) {
            refused("read(1, " + pages + ")", NONE, cot -> cot.read(1, pages, false));
            refused("read(1, " + pages + ", skip)", NONE, cot -> cot.read(1, pages, true));
        }
        refused("read(1, 1, skip)", NONE, cot -> cot.read(1, 1, true));
        for (int house : new int[] {-1, 2, FAR[0], FAR[1]}) {
            refused("goes(" + house + ")", NONE, cot -> cot.goes(house));
            refused("voice(" + house + ", 1)", NONE, cot -> cot.voice(house, 1));
        }
        for (int v : new int[] {-1, 10, FAR[0], FAR[1]}) {
            refused("voice(0, " + v + ")", NONE, cot -> cot.voice(0, v));
            refusedFlag("hush(" + v + ")", cot -> cot.hush(v));
        }
        for (int n : new int[] {-1, 0, 31, FAR[0], FAR[1]}) {
            refused("years(" + n + ", 1)", NONE, cot -> cot.years(n, 1));
        }
    }

    private void tooTired() {
        in("too TIRED", () -> {
            MonsterCot cot = some();
            cot.read(1, 4, false);
            return cot;
        });
        // Six are left.
        refused("seven pages", NONE, cot -> cot.read(2, 7, false));
        refused("seven of eight pages", NONE, cot -> cot.read(2, 8, true));
        refused("seven pages apart", NONE, cot -> cot.calms(2, 7));
        refused("the best of seven", NONE, cot -> cot.best(7, 0));
    }

    private void apartOutOfBounds() {
        in("apart, out of bounds", RefusedTest::some);
        for (int far : new int[] {-2, 100, FAR[0], FAR[1]}) {
            refused("calms(" + far + ", 1)", NONE, cot -> cot.calms(far, 1));
            refused("calms(0, " + far + ")", NONE, cot -> cot.calms(0, far));
            refused("least(" + far + ")", NONE, cot -> cot.least(far));
            refused("best(" + far + ", 0)", NONE, cot -> cot.best(far, 0));
            refused("best(1, " + far + ")", NONE, cot -> cot.best(1, far));
            refused("roster(" + far + ", 0)", NONE, cot -> cot.roster(far, 0));
            refused("roster(0, " + far + ")", NONE, cot -> cot.roster(0, far));
            refused("seen(" + far + ", ..)", NONE, cot -> cot.seen(far, 1, 0, 0, true));
            refused("seen(0, " + far + ", ..)", NONE, cot -> cot.seen(0, far, 0, 0, true));
            refused("seen(0, 1, " + far + ", ..)", NONE, cot -> cot.seen(0, 1, far, 0, true));
            refused("seen(0, 1, 0, " + far + ", ..)", NONE, cot -> cot.seen(0, 1, 0, far, true));
            refused("likes(" + far + ")", NONE, cot -> cot.likes(far));
            refused("probe(" + far + ", 0)", NONE, cot -> cot.probe(far, 0));
            refused("probe(0, " + far + ")", NONE, cot -> cot.probe(0, far));
            refused("which(" + far + ", NONE)", NONE, cot -> cot.which(far, NONE));
            refused("which(0, " + far + ")", NONE, cot -> cot.which(0, far));
            refused("game(" + far + ", ..)", HIDDEN, cot -> cot.game(far, 1, 0, 0, 0, 0));
            refused("game(0, " + far + ", ..)", HIDDEN, cot -> cot.game(0, far, 0, 0, 0, 0));
            refused("game(0, 1, " + far + ", ..)", HIDDEN, cot -> cot.game(0, 1, far, 0, 0, 0));
            refused("game(0, 1, 0, " + far + ", ..)", HIDDEN, cot -> cot.game(0, 1, 0, far, 0, 0));
            refused("game(0, 1, 0, 0, " + far + ", 0)", HIDDEN, cot -> cot.game(0, 1, 0, 0, far, 0));
            refused("game(.., " + far + ")", HIDDEN, cot -> cot.game(0, 1, 0, 0, 0, far));
            refused("rests(" + far + ", ..)", NONE, cot -> cot.rests(far, 1, 0, NONE));
            refused("rests(0, " + far + ", ..)", NONE, cot -> cot.rests(0, far, 0, NONE));
            refused("rests(0, 1, " + far + ", ..)", NONE, cot -> cot.rests(0, 1, far, NONE));
            refused("rests(0, 1, 0, " + far + ")", NONE, cot -> cot.rests(0, 1, 0, far));
            refused("odds(" + far + ", 0)", NONE, cot -> cot.odds(far, 0));
            refused("lasts(" + far + ")", NONE, cot -> cot.lasts(far));
        }
        refused("odds(0, -1)", NONE, cot -> cot.odds(0, -1));
        refused("odds(0, 101)", NONE, cot -> cot.odds(0, 101));
        refused("game, alike", HIDDEN, cot -> cot.game(1, 1, 0, 0, 0, 0));
        refused("rests, alike", NONE, cot -> cot.rests(1, 1, 0, NONE));
    }

    private void whatIsFull() {
        in("full", RefusedTest::full);
        due.is("240 bytes", state.get().count(4), 240);
        refused("a byte more", NONE, cot -> cot.feed(0, 0, 0, 0, 'm'));
        refused("twenty more", NONE, cot -> cot.feed(-1, -1, -1, -1, -1));
        refused("no byte more", 240, cot -> cot.feed(0, 0, 0, 0, 0));
        refused("a fifth LAW", NONE, cot -> cot.text(1));
        refused("an eleventh SEEN", NONE, cot -> cot.seen(0, 1, 0, 99, true));
        in("full of WEEKS", () -> {
            MonsterCot cot = full();
            Due.type(cot, "m;n");
            return cot;
        });
        due.is("no FAULT", state.get().fault(2), NONE);
        refused("a fifth WEEK", NONE, cot -> cot.text(2));
        in("226 bytes", () -> {
            MonsterCot cot = full();
            cot.end(226);
            return cot;
        });
        refused("fifteen more", NONE, cot -> cot.feed(-1, -1, -1, 0x010101, 0));
    }

    private void tooLate() {
        in("NIGHT 9,999", RefusedTest::late);
        due.is("it is", state.get().count(6), 9999);
        refused("night", NONE, MonsterCot::night);
        refused("years(1)", NONE, cot -> cot.years(1, 1));
        refused("years(30)", NONE, cot -> cot.years(30, 1));
        refused("run", 0, cot -> cot.run(0, 0));
        refused("perform", 0, cot -> cot.perform(0));
    }

    // ---- what is asked

    private void whatIsAsked() {
        in("apart", RefusedTest::some);
        refused("fault", 4, cot -> cot.fault(1));
        refused("no byte", 4, cot -> cot.feed(0, 0, 0, 0, 0));
        refusedFlag("end as it is", cot -> !cot.end(4));
        refused("run", 2, cot -> cot.run(0, 0));
        refused("run, sleepers", 2, cot -> cot.run(0, 1));
        refused("calms", 51, cot -> cot.calms(2, 9));
        due.is("CALM is ENOUGH", state.get().all(1), 1);
        in("apart, not ENOUGH", () -> {
            MonsterCot cot = some();
            cot.night();
            cot.night();
            cot.night();
            cot.night();
            return cot;
        });
        due.is("CALM is not ENOUGH", state.get().all(1), 0);
        ToLongFunction<MonsterCot> all = RefusedTest::askAll;
        refused("all that can be asked", all.applyAsLong(state.get()), all);
    }

    /** Asks all that is found out apart; a number that tells all the answers. */
    private static long askAll(MonsterCot cot) {
        long sum = 0;
        for (int what = 0; what < 2; what++) {
            sum = sum * 31 + cot.least(what);
            sum = sum * 31 + cot.run(0, what);
            for (int book = 0; book < 3; book++) {
                sum = sum * 31 + cot.roster(book, what);
                sum = sum * 31 + cot.best(book + 1, what);
                sum = sum * 31 + cot.game(0, 1, book, 1, 2, what);
            }
        }
        for (int book = 0; book < 3; book++) {
            sum = sum * 31 + cot.lasts(book);
            sum = sum * 31 + cot.rests(0, 1, book, NONE);
            sum = sum * 31 + cot.calms(book, 2);
        }
        for (int v = 0; v < 100; v += 9) {
            sum = sum * 31 + cot.which(v, NONE);
            sum = sum * 31 + cot.probe(v % 2, v);
        }
        for (int what = 0; what < 8; what++) {
            sum = sum * 31 + cot.all(what);
        }
        sum = sum * 31 + cot.likes(NONE);
        sum = sum * 31 + cot.quiet();
        sum = sum * 31 + cot.odds(0, 50);
        sum = sum * 31 + cot.pages(0) + cot.left(0);
        return sum;
    }

    /** A look that told nothing would let all pass: each ACT must be seen. */
    private void looksAreUnlike() {
        in("a look tells each change", RefusedTest::some);
        changed("feed", cot -> cot.feed(0, 0, 0, 0, 'y'));
        changed("end", cot -> cot.end(3) ? 1 : 0);
        changed("law", cot -> cot.law(1) ? 1 : 0);
        changed("hush", cot -> cot.hush(4) ? 1 : 0);
        changed("read", cot -> cot.read(1, 1, false));
        changed("voice", cot -> cot.voice(0, 1));
        changed("night", MonsterCot::night);
        changed("years", cot -> cot.years(1, 1));
        changed("undo", MonsterCot::undo);
        changed("perform", cot -> cot.perform(0));
        changed("seen", cot -> cot.seen(0, 1, 0, 0, true));
        changed("image", MonsterCot::image);
        changed("back", MonsterCot::back);
    }

    private void changed(String call, ToLongFunction<MonsterCot> asked) {
        MonsterCot cot = state.get();
        asked.applyAsLong(cot);
        due.is(call + " is seen", Look.of(cot).equals(Look.of(state.get())), false);
    }
}

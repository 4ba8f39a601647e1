import java.math.BigInteger;

/** Edges of ==== 4. and of promises 11, 17, 39, 40 and 41. */
final class YearEdgesTest {
    private static final int NONE = Due.NONE;
    private static final int HIDDEN = Due.HIDDEN;
    private static final int LEAST = Integer.MIN_VALUE;
    private static final int MOST = Integer.MAX_VALUE;
    private static final long[] SEEDS = {0, 1, -1, Long.MIN_VALUE, Long.MAX_VALUE, 1L << 33, -1L >>> 31, 20261118};

    private final Due due = new Due();
    private BigInteger x;

    public static void main(String[] args) {
        YearEdgesTest test = new YearEdgesTest();
        test.hushNoughtToNine();
        test.oneToThirtyNights();
        test.yearsUpTo9999();
        test.drawsGoRound();
        test.drawsOfEachNumberOfBooks();
        test.allIfItHasFewer();
        test.ifItCanBe();
        test.hushOfNoughtAndNine();
        test.eachNightIsOneAct();
        test.yearsFromAsItIs();
        test.imageOfThisLanding();
        test.imageInsteadOfTheOneAhead();
        test.imageKeepsAll();
        test.whatAnImageDoesNotKeep();
        test.noActCanBeUndoneThen();
        test.imageOfAFullLog();
        test.imageOfAnUndoneOne();
        test.whatOfCount();
        test.countsAtFirst();
        test.due.end();
    }

    private void hushNoughtToNine() {
        due.part("11: HUSH 0 .. 9");
        MonsterCot cot = new MonsterCot();
        due.is("0 at first", cot.count(12), 0);
        due.is("hush(0), it is so", cot.hush(0), false);
        for (int v : new int[] {LEAST, -2, -1, 10, 11, MOST}) {
            due.is("hush(" + v + ")", cot.hush(v), false);
            due.is("HUSH", cot.count(12), 0);
        }
        for (int v = 1; v <= 9; v++) {
            due.is("hush(" + v + ")", cot.hush(v), true);
            due.is("HUSH", cot.count(12), v);
            due.is("hush(" + v + "), it is so", cot.hush(v), false);
        }
        for (int v : new int[] {LEAST, -1, 9, 10, MOST}) {
            due.is("hush(" + v + ") of 9", cot.hush(v), false);
            due.is("HUSH", cot.count(12), 9);
        }
        due.is("hush(0)", cot.hush(0), true);
        due.is("HUSH", cot.count(12), 0);
        Due.keep(cot, 0, "b;h");
        due.is("with a LANDING", cot.hush(4), true);
        due.is("no ACT", cot.count(15), 0);
    }

    // ---- YEARS

    private void oneToThirtyNights() {
        due.part("17: 1 .. 30");
        for (int n : new int[] {LEAST, -30, -1, 0, 1, 2, 29, 30, 31, 60, MOST}) {
            MonsterCot cot = Due.cot("b;h;h", "");
            boolean can = n >= 1 && n <= 30;
            due.is("years(" + n + ", 1)", cot.years(n, 1), can ? n : NONE);
            due.is("NIGHT", cot.count(6), can ? n : 0);
            due.is("ACTS", cot.count(15), can ? n : 0);
            due.is("LOG", cot.count(14), can ? n : 0);
            due.is("of none", new MonsterCot().years(n, 1), NONE);
        }
    }

    private void yearsUpTo9999() {
        due.part("17: 9,999 at most");
        MonsterCot cot = Due.cot("sc0;b;h", "");
        for (int i = 1; i <= 332; i++) {
            due.is("years(30, " + i + ")", cot.years(30, i), 30 * i);
        }
        cot.years(10, 1);
        due.is("9,970", cot.count(6), 9970);
        due.is("years(30) beyond", cot.years(30, 1), NONE);
        due.is("9,970 still", cot.count(6), 9970);
        cot.undo();
        due.is("years(30) from 9,969 on", cot.years(30, 1), 9999);
        due.is("years(1) beyond", cot.years(1, 1), NONE);
        due.is("night() beyond", cot.night(), NONE);
        cot.undo();
        due.is("years(2) from 9,998 on", cot.years(2, 1), NONE);
        due.is("no ACT by it", cot.count(15), 39);
        due.is("years(1) from 9,998 on", cot.years(1, 1), 9999);
        due.is("all are TURNS", Due.houseOf(cot, 0, 4), 9999);
    }

    /** As the document tells it, in numbers that do not go round by themselves. */
    private int draw(int j) {
        BigInteger round = BigInteger.ONE.shiftLeft(64);
        x = x.multiply(new BigInteger("6364136223846793005")).add(new BigInteger("1442695040888963407")).mod(round);
        return x.shiftRight(33).mod(BigInteger.valueOf(j)).intValue();
    }

    /** YEARS by single ACTS; how often MILK was to be drunk. */
    private int byHand(MonsterCot cot, int n, long seed, int hush) {
        x = BigInteger.valueOf(seed).mod(BigInteger.ONE.shiftLeft(64));
        int milks = 0;
        for (int night = 0; night < n; night++) {
            for (int twice = 0; twice < 2; twice++) {
                int book = draw(cot.count(1));
                int pages = draw(9) + 1;
                cot.read(book, Math.min(pages, cot.tome(book, 0)), false);
            }
            if (draw(10) < hush) {
                cot.milk();
                milks++;
            }
            cot.night();
        }
        return milks;
    }

    private void sameState(String what, MonsterCot got, MonsterCot want) {
        StringBuilder gotAll = new StringBuilder();
        StringBuilder wantAll = new StringBuilder();
        for (int i = 6; i < 15; i++) {
            gotAll.append(got.count(i)).append(' ');
            wantAll.append(want.count(i)).append(' ');
        }
        for (int i = 0; i < got.count(14); i++) {
            gotAll.append(got.log(i, 1)).append(' ').append(got.log(i, 2)).append(' ');
            wantAll.append(want.log(i, 1)).append(' ').append(want.log(i, 2)).append(' ');
        }
        for (int house = 0; house < got.count(0); house++) {
            gotAll.append(Due.houseOf(got, house, 3)).append(' ');
            wantAll.append(Due.houseOf(want, house, 3)).append(' ');
        }
        for (int kind = 0; kind < 4; kind++) {
            gotAll.append(got.bored(kind)).append(' ');
            wantAll.append(want.bored(kind)).append(' ');
        }
        due.is(what, gotAll.append(got.rule(0)).toString(), wantAll.append(want.rule(0)).toString());
    }

    private void yearsAreAsByHand(String landing, int n, long seed, int hush) {
        MonsterCot cot = Due.cot(landing, "");
        MonsterCot hand = Due.cot(landing, "");
        cot.hush(hush);
        hand.hush(hush);
        due.is("years(" + n + ", " + seed + ")", cot.years(n, seed), n);
        byHand(hand, n, seed, hush);
        sameState("years(" + n + ", " + seed + ") of " + landing + " by HUSH " + hush, cot, hand);
    }

    private void drawsGoRound() {
        due.part("17: 64 bits, going round, without sign");
        for (long seed : SEEDS) {
            yearsAreAsByHand("sc50l9e40;bp9c3;bp5c4k1;bp2c2k2;hs20n3;hs12n5", 30, seed, 5);
            yearsAreAsByHand("sc50l9e40;bp9c3;bp5c4k1;bp2c2k2;hs20n3;hs12n5", 1, seed, 5);
        }
    }

    private void drawsOfEachNumberOfBooks() {
        due.part("17: a draw of how many BOOKS there are");
        String[] books = {"bp9c2", "bp8c3k1", "bp7c4k2", "bp6c5k3", "bp5c6", "bp4c7k1"};
        StringBuilder landing = new StringBuilder("sc30l20e40;hn3s15");
        for (String book : books) {
            landing.append(';').append(book);
            for (long seed : SEEDS) {
                yearsAreAsByHand(landing.toString(), 20, seed, 3);
            }
        }
    }

    private void allIfItHasFewer() {
        due.part("17: all, if it has fewer");
        // Of one page: it is READ each NIGHT once, however many pages are drawn; the second can't be.
        MonsterCot cot = Due.cot("sc0l0e1;bp1c1;hv0", "y:1");
        cot.years(30, 5);
        due.is("one page a NIGHT", cot.rule(0), 30);
        // Of nine pages: between 1 and 9 of them.
        for (long seed : SEEDS) {
            cot = Due.cot("sc0l0e1;bp9;hs40v0", "y:1");
            x = BigInteger.valueOf(seed).mod(BigInteger.ONE.shiftLeft(64));
            draw(1);
            int pages = draw(9) + 1;
            cot.years(1, seed);
            due.is("as many as are drawn", cot.rule(0), pages);
        }
    }

    private void ifItCanBe() {
        due.part("17: if it can be");
        // He is never strong enough for more than one page, and TIRED by none else.
        for (long seed : SEEDS) {
            MonsterCot cot = Due.cot("sc0l0e1;bp9;bp9k1;hs1", "y:1");
            x = BigInteger.valueOf(seed).mod(BigInteger.ONE.shiftLeft(64));
            draw(2);
            boolean first = draw(9) == 0;
            draw(2);
            boolean second = draw(9) == 0;
            cot.years(1, seed);
            due.is("a single page or none", cot.log(0, 1), first || second ? 1 : 0);
        }
        MonsterCot cot = Due.cot("sc0l0e1;bp1;h", "y:1");
        cot.read(0, 1, false);
        cot.milk();
        cot.hush(9);
        cot.years(1, 1);
        due.is("READ and MILK were this NIGHT", cot.log(0, 1), 4);
    }

    private void hushOfNoughtAndNine() {
        due.part("17: a draw of 10 below HUSH");
        MonsterCot cot = Due.cot("sc0l0e1;b;h", "y:0");
        cot.years(30, 11);
        due.is("HUSH 0: no MILK", cot.rule(0), 0);
        for (int hush = 1; hush <= 9; hush++) {
            cot = Due.cot("sc0l0e1;b;h", "y:0");
            MonsterCot hand = Due.cot("sc0l0e1;b;h", "y:0");
            cot.hush(hush);
            cot.years(30, 11);
            int milks = byHand(hand, 30, 11, hush);
            due.is("HUSH " + hush, cot.rule(0), Math.min(99, 3 * milks));
        }
        // At 9 a single draw of ten gives no MILK: in a thousand NIGHTS there are some.
        int without = 0;
        cot = Due.cot("sc0l3e99;b;h", "y:0");
        cot.hush(9);
        for (int i = 0; i < 10; i++) {
            cot.years(30, i);
            for (int night = 0; night < 30; night++) {
                without += cot.log(night, 1) == 0 ? 1 : 0;
            }
        }
        due.is("some, not many, without", without > 10 && without < 60, true);
    }

    private void eachNightIsOneAct() {
        due.part("17: each NIGHT with what is ahead of it is one ACT");
        MonsterCot cot = Due.cot("sc50l9e40;bp9c3;bp5c4k1;hs20;hs12", "");
        cot.hush(9);
        cot.read(0, 1, false);
        cot.years(30, 77);
        due.is("31 ACTS", cot.count(15), 31);
        due.is("undo()", cot.undo(), 30);
        due.is("NIGHT 29", cot.count(6), 29);
        due.is("nothing was this NIGHT", cot.tome(0, 3) + cot.tome(1, 3) + cot.count(10), 0);
        cot.years(10, 78);
        due.is("40 ACTS", cot.count(15), 40);
        cot.years(1, 78);
        due.is("40 ACTS still", cot.count(15), 40);
        for (int i = 0; i < 40; i++) {
            cot.undo();
        }
        due.is("NIGHT 0, what was READ stands", cot.count(6) * 10 + cot.tome(0, 3), 1);
        due.is("that can't be undone", cot.undo(), NONE);
        due.is("no entry", cot.count(14), 0);
    }

    private void yearsFromAsItIs() {
        due.part("17: where it is, by what was this NIGHT");
        MonsterCot cot = Due.cot("sc50l9e40;bp9c3;bp5c4k1;hs20n1;hs12n2;hs5n3", "y:c-b");
        MonsterCot hand = Due.cot("sc50l9e40;bp9c3;bp5c4k1;hs20n1;hs12n2;hs5n3", "y:c-b");
        for (MonsterCot each : new MonsterCot[] {cot, hand}) {
            each.goes(2);
            each.read(1, 3, true);
            each.milk();
            each.hush(7);
        }
        cot.years(7, 4);
        byHand(hand, 7, 4, 7);
        sameState("from as it is", cot, hand);
        due.is("the first was in HOUSE 2", cot.log(6, 0), 2);
    }

    // ---- IMAGES

    private void imageOfThisLanding() {
        due.part("39, 40: an IMAGE of this LANDING");
        MonsterCot cot = new MonsterCot();
        due.is("image() of none", cot.image(), NONE);
        due.is("back() of none", cot.back(), NONE);
        Due.keep(cot, 0, "b;h");
        due.is("back() without an IMAGE", cot.back(), NONE);
        due.is("image()", cot.image(), 0);
        due.is("back()", cot.back(), 0);
        cot.night();
        due.is("a wrong LANDING", Due.keep(cot, 0, "b;"), NONE);
        due.is("back() is still there", cot.back(), 0);
        Due.keep(cot, 0, "b;h");
        due.is("back() of another LANDING", cot.back(), NONE);
        due.is("nothing by it", cot.count(6), 0);
        cot.night();
        due.is("an IMAGE of it", cot.image(), 1);
        cot.night();
        due.is("back() to it", cot.back(), 1);
    }

    private void imageInsteadOfTheOneAhead() {
        due.part("39: instead of the one ahead");
        MonsterCot cot = Due.cot("b;h", "");
        cot.image();
        cot.night();
        cot.night();
        due.is("image()", cot.image(), 2);
        cot.night();
        due.is("back()", cot.back(), 2);
        due.is("back() again", cot.back(), 2);
        cot.night();
        due.is("back() once more", cot.back(), 2);
        due.is("NIGHT", cot.count(6), 2);
    }

    private void imageKeepsAll() {
        due.part("40: they are so again");
        MonsterCot cot = Due.cot("sc30l9e25;bp4k1;bp4k2;hn3v1;hn4v2;hn5v3", "y:1");
        cot.night();
        cot.night();
        cot.goes(0);
        cot.read(0, 3, false);
        cot.milk();
        cot.voice(1, 9);
        cot.image();
        cot.night();
        cot.read(1, 4, false);
        cot.milk();
        cot.goes(1);
        cot.voice(1, 8);
        cot.voice(0, 7);
        cot.years(9, 3);
        due.is("back()", cot.back(), 2);
        due.is("CALM", cot.rule(0), 10 + 3 + 3);
        due.is("BORED", cot.bored(1) * 10 + cot.bored(2), 10);
        due.is("where it is", cot.count(7), 0);
        int[] tired = {3, 0, 0};
        int[] voices = {1, 9, 3};
        int[] turns = {1, 1, 0};
        for (int house = 0; house < 3; house++) {
            due.is("VOICE", Due.houseOf(cot, house, 2), voices[house]);
            due.is("TIRED", Due.houseOf(cot, house, 3), tired[house]);
            due.is("TURNS", Due.houseOf(cot, house, 4), turns[house]);
        }
        due.is("READ", cot.tome(0, 3) * 10 + cot.tome(1, 3), 10);
        due.is("MILK", cot.count(10), 1);
        due.is("went", cot.count(11), 1);
        due.is("READ is refused", cot.read(0, 1, false), NONE);
        due.is("MILK is refused", cot.milk(), NONE);
        due.is("going is refused", cot.goes(1), NONE);
        due.is("slept", cot.count(8), 3);
        due.is("AWAKE", cot.count(9), 4);
        due.is("NIGHT", cot.count(6), 2);
        due.is("LOG", cot.count(14), 2);
        due.is("its entry", cot.log(0, 0) * 10000 + cot.log(0, 1) * 10 + cot.log(0, 2), 10210);
    }

    private void whatAnImageDoesNotKeep() {
        due.part("40: what an IMAGE does not keep");
        MonsterCot cot = Due.cot("b;h", "");
        cot.image();
        Due.keep(cot, 1, "y:1");
        Due.keep(cot, 2, "m");
        cot.law(0);
        cot.hush(3);
        cot.seen(0, 1, 0, 1, true);
        Due.type(cot, "abc");
        cot.back();
        int[] counts = {1, 1, 1, 1, 3, 0, 0, 0, 0, 0, 0, 0, 3, 1, 0, 0};
        for (int what = 0; what < counts.length; what++) {
            due.is("count(" + what + ")", cot.count(what), counts[what]);
        }
    }

    private void noActCanBeUndoneThen() {
        due.part("40: no ACT can be UNDONE then");
        MonsterCot cot = Due.cot("b;hv0", "");
        cot.milk();
        cot.voice(0, 1);
        cot.image();
        due.is("an IMAGE is no ACT", cot.count(15), 2);
        due.is("undo() behind an IMAGE", cot.undo(), 1);
        cot.voice(0, 2);
        cot.back();
        due.is("count(15)", cot.count(15), 0);
        due.is("undo()", cot.undo(), NONE);
        due.is("VOICE as it was", Due.houseOf(cot, 0, 2), 1);
        cot.voice(0, 3);
        due.is("an ACT then", cot.undo(), 0);
        due.is("VOICE as it was then", Due.houseOf(cot, 0, 2), 1);
        for (int i = 0; i < 45; i++) {
            cot.voice(0, i % 2 == 0 ? 4 : 5);
        }
        due.is("40 of them", cot.count(15), 40);
        cot.back();
        due.is("none of them", cot.undo(), NONE);
        due.is("back() at once again", cot.back(), 0);
    }

    private void imageOfAFullLog() {
        due.part("40: a LOG of 60");
        MonsterCot cot = Due.cot("sc99e1l1;b;h", "");
        for (int night = 0; night < 65; night++) {
            cot.night();
        }
        cot.image();
        for (int night = 0; night < 70; night++) {
            cot.night();
        }
        cot.back();
        due.is("how long", cot.count(14), 60);
        for (int i = 0; i < 60; i++) {
            due.is("entry " + i, cot.log(i, 1), 99 - 64 + i);
        }
        due.is("none ahead", cot.log(60, 1), NONE);
        cot.night();
        due.is("the next one", cot.log(0, 1), 99 - 65);
        due.is("60 still", cot.count(14), 60);
        cot.undo();
        due.is("undone", cot.log(59, 1), 99 - 5);
    }

    private void imageOfAnUndoneOne() {
        due.part("39: from as it is, UNDONE or not");
        MonsterCot cot = Due.cot("sc10l0e1;b;h", "");
        cot.night();
        cot.milk();
        cot.undo();
        cot.undo();
        due.is("image()", cot.image(), 0);
        cot.night();
        due.is("back()", cot.back(), 0);
        due.is("no entry", cot.count(14), 0);
        due.is("CALM", cot.rule(0), 10);
    }

    // ---- count

    private void whatOfCount() {
        due.part("41: count");
        MonsterCot cot = Due.cot("sc10e20;bp9;b;hn4;h;h", "y:9");
        for (int what : new int[] {LEAST, HIDDEN, -2, -1, 16, 17, 100, MOST}) {
            due.is("count(" + what + ")", cot.count(what), HIDDEN);
            due.is("count(" + what + ") of none", new MonsterCot().count(what), HIDDEN);
        }
        due.is("count(0)", cot.count(0), 3);
        due.is("count(15)", cot.count(15), 0);
        cot.milk();
        due.is("count(15) of one", cot.count(15), 1);
    }

    private void countsAtFirst() {
        due.part("41: count of a new object");
        MonsterCot cot = new MonsterCot();
        for (int what = 0; what < 16; what++) {
            due.is("count(" + what + ")", cot.count(what), what == 5 ? NONE : 0);
        }
    }
}

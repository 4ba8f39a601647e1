/** Edges of what is and what is done: each sentence of ==== 2., and promises 6 to 16, 18 and 19. */
final class ActEdgesTest {
    private static final int NONE = Due.NONE;
    private static final int THROWN = Due.THROWN;
    private static final int LEAST = Integer.MIN_VALUE;
    private static final int MOST = Integer.MAX_VALUE;
    private static final String SIX_HOUSES = "b;hn1;hn2;hn3;hn4;hn5;hn6";

    private final Due due = new Due();

    public static void main(String[] args) {
        ActEdgesTest test = new ActEdgesTest();
        test.newObject();
        test.whatOfRules();
        test.whatOfTomes();
        test.whatOfHouses();
        test.kindsBored();
        test.lawsThatHold();
        test.atFirstInHouseNought();
        test.worthHeldWithin();
        test.worthWithoutLaw();
        test.lettersOfLaws();
        test.lettersAreToldApart();
        test.pagesOfReadings();
        test.calmHeldAtEachPage();
        test.tiredUpToStrength();
        test.skippedTwoAtLeast();
        test.skippedFiveLess();
        test.skippedPageLeftOut();
        test.nineTimesBored();
        test.eachBookOnceANight();
        test.milkUpTo99();
        test.milkOnceANight();
        test.goesToAnother();
        test.goesOnceANight();
        test.voicesNoughtToNine();
        test.enoughOrNot();
        test.calmLosesDownToNought();
        test.sleepersAndThoseAwake();
        test.fathersRest();
        test.boredNoMore();
        test.nightForgetsTheEvening();
        test.nextHouseGoesRound();
        test.turnsOfThatHouse();
        test.nightUpTo9999();
        test.logOfSixty();
        test.whatOfLog();
        test.fortyActs();
        test.eachActIsUndone();
        test.whatIsNoAct();
        test.logIsUndone();
        test.due.end();
    }

    // ---- what there is

    private void newObject() {
        due.part("1: no LANDING");
        MonsterCot cot = new MonsterCot();
        due.is("HOUSES", cot.count(0), 0);
        due.is("BOOKS", cot.count(1), 0);
        due.is("rule(0)", cot.rule(0), NONE);
        due.is("tome(0, 0)", cot.tome(0, 0), NONE);
        due.is("house(0, 0)", Due.houseOf(cot, 0, 0), THROWN);
        due.is("bored(0)", cot.bored(0), NONE);
        due.is("read(0, 1)", cot.read(0, 1, false), NONE);
        due.is("milk()", cot.milk(), NONE);
        due.is("goes(0)", cot.goes(0), NONE);
        due.is("goes(1)", cot.goes(1), NONE);
        due.is("voice(0, 0)", cot.voice(0, 0), NONE);
        due.is("voice(0, 1)", cot.voice(0, 1), NONE);
        due.is("night()", cot.night(), NONE);
        due.is("undo()", cot.undo(), NONE);
        due.is("no ACT by all these", cot.count(15), 0);
        due.is("NIGHT", cot.count(6), 0);
    }

    private void whatOfRules() {
        due.part("6: rule");
        MonsterCot cot = Due.cot("sc1e2l3;b;h", "");
        int[] what = {LEAST, -2, -1, 0, 1, 2, 3, 4, MOST};
        int[] want = {NONE, NONE, NONE, 1, 2, 3, NONE, NONE, NONE};
        for (int i = 0; i < what.length; i++) {
            due.is("rule(" + what[i] + ")", cot.rule(what[i]), want[i]);
            due.is("rule(" + what[i] + ") of none", new MonsterCot().rule(what[i]), NONE);
        }
    }

    private void whatOfTomes() {
        due.part("7: tome");
        MonsterCot cot = Due.cot("bp5c6k1;bp7c8k2;h", "");
        cot.read(1, 1, false);
        int[][] tomes = {{5, 6, 1, 0}, {7, 8, 2, 1}};
        for (int book : new int[] {LEAST, -1, 0, 1, 2, 6, MOST}) {
            for (int what : new int[] {LEAST, -1, 0, 1, 2, 3, 4, MOST}) {
                boolean there = book >= 0 && book < 2 && what >= 0 && what < 4;
                due.is("tome(" + book + ", " + what + ")", cot.tome(book, what), there ? tomes[book][what] : NONE);
            }
        }
        cot.night();
        due.is("READ no more", cot.tome(1, 3), 0);
        MonsterCot six = Due.cot("b;b;b;b;b;bp9;h", "");
        due.is("the sixth", six.tome(5, 0), 9);
        due.is("no seventh", six.tome(6, 0), NONE);
    }

    private void whatOfHouses() {
        due.part("8: house");
        MonsterCot cot = Due.cot("bp9;hn3s14v1;hn4s15v2", "");
        cot.night();
        cot.voice(0, 8);
        cot.read(0, 9, false);
        int[][] houses = {{3, 14, 8, 0, 1}, {4, 15, 2, 9, 0}};
        for (int house : new int[] {LEAST, -1, 0, 1, 2, 6, MOST}) {
            for (int what : new int[] {LEAST, -1, 0, 1, 2, 3, 4, 5, MOST}) {
                boolean there = house >= 0 && house < 2 && what >= 0 && what < 5;
                int want = there ? houses[house][what] : THROWN;
                due.is("house(" + house + ", " + what + ")", Due.houseOf(cot, house, what), want);
            }
        }
        MonsterCot six = Due.cot(SIX_HOUSES, "");
        due.is("the sixth", Due.houseOf(six, 5, 0), 6);
        due.is("no seventh", Due.houseOf(six, 6, 0), THROWN);
        for (int what = 0; what < 5; what++) {
            due.is("house(0, " + what + ") of none", Due.houseOf(new MonsterCot(), 0, what), THROWN);
        }
    }

    private void kindsBored() {
        due.part("9: bored");
        MonsterCot cot = Due.cot("bk0;bk1;bk1;bk3;h", "");
        for (int book = 0; book < 4; book++) {
            cot.read(book, 1, false);
        }
        int[] kinds = {LEAST, -1, 0, 1, 2, 3, 4, MOST};
        int[] want = {NONE, NONE, 1, 2, 0, 1, NONE, NONE};
        for (int i = 0; i < kinds.length; i++) {
            due.is("bored(" + kinds[i] + ")", cot.bored(kinds[i]), want[i]);
            due.is("bored(" + kinds[i] + ") of none", new MonsterCot().bored(kinds[i]), NONE);
        }
    }

    private void lawsThatHold() {
        due.part("10: law");
        MonsterCot cot = Due.cot("sc10;bp1c3;hv0", "");
        due.is("none at first", cot.count(5), NONE);
        due.is("law(NONE) of none", cot.law(NONE), true);
        due.is("law(0) of none", cot.law(0), false);
        Due.keep(cot, 1, "y:5");
        Due.keep(cot, 1, "y:6");
        due.is("kept is not held", cot.count(5), NONE);
        due.is("as without", cot.calms(0, 1), 13);
        for (int law : new int[] {LEAST, -2, 2, 3, 4, MOST}) {
            due.is("law(" + law + ")", cot.law(law), false);
            due.is("none holds", cot.count(5), NONE);
        }
        due.is("law(1)", cot.law(1), true);
        due.is("by it", cot.calms(0, 1), 16);
        for (int law : new int[] {LEAST, -2, 2, 3, 4, MOST}) {
            due.is("law(" + law + ") again", cot.law(law), false);
            due.is("1 still holds", cot.count(5), 1);
        }
        due.is("law(1), it is so", cot.law(1), true);
        due.is("law(0)", cot.law(0), true);
        due.is("by the other one", cot.calms(0, 1), 15);
        due.is("law(NONE)", cot.law(NONE), true);
        due.is("as without again", cot.calms(0, 1), 13);
        MonsterCot bare = new MonsterCot();
        Due.keep(bare, 1, "y:1");
        due.is("without a LANDING, too", bare.law(0), true);
        due.is("it holds", bare.count(5), 0);
    }

    private void atFirstInHouseNought() {
        due.part("it is in HOUSE 0 at first");
        MonsterCot cot = Due.cot(SIX_HOUSES, "");
        due.is("count(7)", cot.count(7), 0);
        cot.goes(5);
        Due.keep(cot, 0, SIX_HOUSES);
        due.is("of another LANDING, too", cot.count(7), 0);
    }

    // ---- a page

    private void worthIs(String law, int want) {
        MonsterCot cot = Due.cot("sc50;bp9;h", law);
        due.is("a page by " + law, cot.read(0, 1, false) - 50, want);
    }

    private void worthHeldWithin() {
        due.part("a page CALMS -9 .. 20");
        worthIs("y:0-8", -8);
        worthIs("y:0-9", -9);
        worthIs("y:0-10", -9);
        worthIs("y:[0-9999]*9999", -9);
        worthIs("y:19", 19);
        worthIs("y:20", 20);
        worthIs("y:21", 20);
        worthIs("y:9999*9999", 20);
        worthIs("y:0", 0);
    }

    private void worthWithoutLaw() {
        due.part("without a LAW: VOICE by 3, cut");
        int[] byVoice = {0, 0, 0, 1, 1, 1, 2, 2, 2, 3};
        for (int voice = 0; voice <= 9; voice++) {
            MonsterCot cot = Due.cot("sc50;bp1c0;bp1c9;hv" + voice, "");
            due.is("VOICE " + voice, cot.calms(0, 1), 50 + byVoice[voice]);
            due.is("VOICE " + voice + " and 9", cot.calms(1, 1), 59 + byVoice[voice]);
        }
        due.part("without a LAW: less how BORED");
        MonsterCot cot = veryBored(0);
        due.is("9 less", cot.rule(0) - cot.calms(0, 1), 9);
        due.is("of another KIND none", cot.calms(5, 1), cot.rule(0));
    }

    /** BOOKS 0 to 4 of KIND 0, 5 of KIND 1; by KIND 0 it is 9 BORED, CALM is much. */
    private static MonsterCot veryBored(int voice) {
        String book = "bp1c0;";
        MonsterCot cot = Due.cot("sc99l0e1;" + book + book + book + book + book + "bp1c0k1;hs40v" + voice, "y:0");
        cot.law(0);
        for (int night = 0; night < 3; night++) {
            for (int i = 0; i < 5; i++) {
                cot.read(i, 1, false);
            }
            if (night < 2) {
                cot.night();
            }
        }
        cot.law(NONE);
        return cot;
    }

    private void lettersOfLaws() {
        due.part("letters of a LAW");
        MonsterCot cot = Due.cot("sc0e1l0;bp9c9k1;bp1c0k1;hv0s40;hv9s40", "y:c");
        due.is("c at its most", cot.calms(0, 1), 9);
        due.is("c at its least", cot.calms(1, 1), 0);
        for (String law : new String[] {"y:v", "y:b", "y:p", "y:n"}) {
            Due.keep(cot, 1, law);
        }
        cot.law(1);
        due.is("v 0", cot.calms(0, 1), 0);
        cot.law(2);
        due.is("b 0", cot.calms(0, 1), 0);
        cot.law(3);
        due.is("p 0", cot.calms(0, 1), 0);
        due.is("p 0 to 8", cot.calms(0, 9), 36);
        cot.goes(1);
        cot.law(1);
        due.is("v 9", cot.calms(0, 1), 9);
        MonsterCot tired = Due.cot("sc0;bp9;bp1;hs10", "y:t");
        due.is("t 0 to 8", tired.read(0, 9, false), 36);
        due.is("t 9", tired.calms(1, 1), 45);
        MonsterCot late = Due.cot("sc50e1l0;bp1;h", "y:n=9999?7;y:n=0?6;y:0");
        due.is("n 0", late.calms(0, 1), 56);
        late.night();
        for (int i = 0; i < 333; i++) {
            late.years(30, 1);
        }
        late.years(8, 1);
        due.is("n 9,999", late.calms(0, 1), 57);
        MonsterCot bored = veryBored(0);
        Due.keep(bored, 1, "y:b-9");
        bored.law(1);
        due.is("b 9", bored.calms(0, 1), bored.rule(0));
    }

    /** Many pages asked of one object, of which two letters tell each from the others. */
    private void lettersAreToldApart() {
        due.part("letters of a LAW, told apart");
        due.is("all of them 0", Due.cot("sc50;bp1c0;hv0", "y:5").calms(0, 1), 55);
        MonsterCot voices = Due.cot("sc50;bp1c0;bp1c1;bp1c2;bp1c8;bp1c9;hv9", "y:c-v");
        int[] calming = {0, 1, 2, 8, 9};
        for (int v = 0; v <= 9; v++) {
            voices.voice(0, v);
            for (int book = 0; book < 5; book++) {
                due.is("c " + calming[book] + " v " + v, voices.calms(book, 1), 50 + calming[book] - v);
            }
        }
        MonsterCot tired = Due.cot("sc50;bp9;hv9", "y:v-t");
        for (int v = 0; v <= 9; v++) {
            tired.voice(0, v);
            for (int n = 1; n <= 9; n++) {
                due.is("v " + v + " t up to " + (n - 1), tired.calms(0, n), 50 + v * n - n * (n - 1) / 2);
            }
        }
        MonsterCot bored = Due.cot("sc50l0e1;bp9;bp9;bp9;bp9;bp9;hs40", "y:0");
        Due.keep(bored, 1, "y:p-b");
        for (int i = 0; i < 15; i++) {
            bored.read(i % 5, 1, false);
            if (i == 4 || i == 9) {
                bored.night();
            }
        }
        bored.law(1);
        for (int b = 9; b >= 0; b--) {
            for (int n = 1; n <= 9; n++) {
                due.is("b " + b + " p up to " + (n - 1), bored.calms(0, n), 50 - b * n + n * (n - 1) / 2);
            }
            bored.night();
        }
        MonsterCot nights = Due.cot("sc50l0e1;bp9;h", "y:p-n");
        for (int night = 0; night <= 9; night++) {
            for (int n = 1; n <= 9; n++) {
                due.is("n " + night + " p up to " + (n - 1), nights.calms(0, n), 50 - night * n + n * (n - 1) / 2);
            }
            nights.night();
        }
        MonsterCot loud = Due.cot("sc50;bp1;bp1k1;hv1", "y:v");
        due.is("v 1 t 0", loud.calms(0, 1), 51);
        loud.voice(0, 0);
        loud.read(1, 1, false);
        due.is("v 0 t 1", loud.calms(0, 1), 50);
        MonsterCot weary = Due.cot("sc40e61;bp1;bp1;bp1k1;h;h", "y:t*20");
        weary.read(2, 1, false);
        due.is("t 1 b 0", weary.calms(0, 1), 60);
        weary.read(1, 1, false);
        due.is("60 and t 2 b 1", weary.calms(0, 1), 80);
        due.is("t 0 b 1 of the other one is nothing", weary.game(1, 0, 0, 1, 0, 0), -1);
        MonsterCot laws = Due.cot("sc50;bp1;h", "y:1");
        for (int law = 1; law < 4; law++) {
            Due.keep(laws, 1, "y:" + (law + 1));
        }
        for (int i = 0; i < 8; i++) {
            laws.law(i % 4);
            due.is("LAW " + i % 4, laws.calms(0, 1), 51 + i % 4);
        }
    }

    // ---- readings

    private void pagesOfReadings() {
        due.part("12: READ 1 .. PAGES");
        for (int pages = 1; pages <= 9; pages++) {
            for (int n : new int[] {LEAST, -1, 0, 1, pages, pages + 1, 10, MOST}) {
                MonsterCot cot = Due.cot("sc10;bp" + pages + "c1;hv0s40", "");
                boolean can = n >= 1 && n <= pages;
                due.is("calms(0, " + n + ") of " + pages, cot.calms(0, n), can ? 10 + n : NONE);
                due.is("read(0, " + n + ") of " + pages, cot.read(0, n, false), can ? 10 + n : NONE);
                due.is("ACTS", cot.count(15), can ? 1 : 0);
                due.is("TIRED", Due.houseOf(cot, 0, 3), can ? n : 0);
            }
        }
        due.part("12: no such BOOK");
        MonsterCot cot = Due.cot("b;b;h", "");
        for (int book : new int[] {LEAST, -1, 2, 3, 6, 32, MOST}) {
            due.is("read(" + book + ", 1)", cot.read(book, 1, false), NONE);
            due.is("read(" + book + ", 2, skip)", cot.read(book, 2, true), NONE);
        }
        due.is("the last one", cot.read(1, 1, false), 14);
        due.is("the first one", cot.read(0, 1, false), 17);
    }

    private void calmHeldAtEachPage() {
        due.part("CALM 0 .. 99 at each page");
        String down = "y:p=0?0-9;y:9";
        String up = "y:p=0?9;y:0-9";
        due.is("10 less 9", Due.cot("sc10;b;h", down).read(0, 1, false), 1);
        due.is("9 less 9", Due.cot("sc9;b;h", down).read(0, 1, false), 0);
        due.is("8 less 9", Due.cot("sc8;b;h", down).read(0, 1, false), 0);
        due.is("8 less 9, then 9", Due.cot("sc8;b;h", down).read(0, 2, false), 9);
        due.is("0 less 9, then 9", Due.cot("sc0;b;h", down).read(0, 2, false), 9);
        due.is("89 and 9", Due.cot("sc89;b;h", up).read(0, 1, false), 98);
        due.is("90 and 9", Due.cot("sc90;b;h", up).read(0, 1, false), 99);
        due.is("91 and 9", Due.cot("sc91;b;h", up).read(0, 1, false), 99);
        due.is("91 and 9, less 9", Due.cot("sc91;b;h", up).read(0, 2, false), 90);
        due.is("99 and 9, less 9", Due.cot("sc99;b;h", up).read(0, 2, false), 90);
    }

    private void tiredUpToStrength() {
        due.part("TIRED not beyond STRENGTH");
        for (int strength = 1; strength <= 9; strength++) {
            MonsterCot cot = Due.cot("sc10;bp9c1;hv0s" + strength, "");
            due.is("calms() one more than " + strength, cot.calms(0, strength + 1), NONE);
            due.is("one more than " + strength, cot.read(0, strength + 1, false), NONE);
            due.is("nobody TIRED by it", cot.left(0), strength);
            due.is("just " + strength, cot.read(0, strength, false), 10 + strength);
            due.is("none left", cot.left(0), 0);
            due.is("TIRED", Due.houseOf(cot, 0, 3), strength);
        }
        MonsterCot cot = Due.cot("sc0;bp9c0;bp9c0k1;bp9c0k2;bp9c0k3;bp9c0;hv0s40;hs1", "");
        for (int book = 0; book < 4; book++) {
            due.is("nine more", cot.read(book, 9, false), 0);
        }
        due.is("four left", cot.left(0), 4);
        due.is("five more", cot.read(4, 5, false), NONE);
        due.is("six, one SKIPPED", cot.read(4, 6, true), NONE);
        due.is("four more", cot.read(4, 4, false), 0);
        due.is("40", Due.houseOf(cot, 0, 3), 40);
        cot = Due.cot("bp9;b;hs9;hs1", "");
        cot.read(0, 9, false);
        due.is("none left", cot.read(1, 1, false), NONE);
        cot.goes(1);
        due.is("another FATHER can", cot.read(1, 1, false) != NONE, true);
    }

    private void skippedTwoAtLeast() {
        due.part("12: SKIPPED, 2 pages at least");
        for (int n : new int[] {LEAST, -1, 0, 1, 2, 3, 4, 5, MOST}) {
            MonsterCot cot = Due.cot("sc10;bp4c1;hv0", "");
            boolean can = n >= 2 && n <= 4;
            due.is("read(0, " + n + ", skip)", cot.read(0, n, true), can ? 10 + n - 1 - 5 : NONE);
            due.is("ACTS", cot.count(15), can ? 1 : 0);
            due.is("TIRED", Due.houseOf(cot, 0, 3), can ? n - 1 : 0);
            due.is("BORED", cot.bored(0), can ? 1 : 0);
            due.is("READ", cot.tome(0, 3), can ? 1 : 0);
        }
        due.is("a BOOK of one page", Due.cot("bp1;h", "").read(0, 1, true), NONE);
        due.is("a BOOK of two pages", Due.cot("sc10;bp2c0;hv0", "").read(0, 2, true), 5);
        due.part("12: SKIPPED, too TIRED");
        MonsterCot cot = Due.cot("sc10;bp9c1;hv0s3", "");
        due.is("four of them", cot.read(0, 5, true), NONE);
        due.is("three of them", cot.read(0, 4, true), 8);
        due.is("none left", cot.left(0), 0);
    }

    private void skippedFiveLess() {
        due.part("SKIPPED: 5 less, 0 at least");
        int[] calms = {0, 1, 4, 5, 6, 7, 99};
        int[] want = {0, 0, 0, 0, 1, 2, 94};
        for (int i = 0; i < calms.length; i++) {
            MonsterCot cot = Due.cot("bp2;h;sc" + calms[i], "y:0");
            due.is("from " + calms[i], cot.read(0, 2, true), want[i]);
        }
        due.is("99 at most ahead of it", Due.cot("sc98;bp2;h", "y:9").read(0, 2, true), 94);
        due.is("0 at least ahead of it", Due.cot("sc3;bp3;h", "y:p=0?0-9;y:9").read(0, 3, true), 4);
    }

    private void skippedPageLeftOut() {
        due.part("SKIPPED: the last one is left out");
        due.is("1 and 2, not 4", Due.cot("sc10;bp9;h", "y:p=0?1;y:p=1?2;y:4").read(0, 3, true), 8);
        due.is("1, not 2", Due.cot("sc10;bp9;h", "y:p=0?1;y:p=1?2;y:4").read(0, 2, true), 6);
    }

    private void nineTimesBored() {
        due.part("BORED: 9 at most");
        MonsterCot cot = Due.cot("sc50;bp1;bp1;bp1;bp1;bp2;bp1k3;hs40", "y:b");
        int[] want = {1, 2, 3, 4, 5, 5, 6, 7, 8, 9, 9, 9, 9, 9, 9};
        for (int i = 0; i < 15; i++) {
            cot.read(i % 5, i % 5 == 4 ? 2 : 1, i % 5 == 4);
            due.is("reading " + i, cot.bored(0), want[i]);
            if (i % 5 == 4) {
                cot.night();
                due.is("one less", cot.bored(0), want[i] - 1);
            }
        }
        due.is("of KIND 3", cot.bored(3), 0);
    }

    private void eachBookOnceANight() {
        due.part("each BOOK once a NIGHT");
        for (int first = 0; first < 2; first++) {
            for (int then = 0; then < 2; then++) {
                MonsterCot cot = Due.cot("sc50;b;b;h;h", "");
                due.is("once", cot.read(1, 2, first == 1) != NONE, true);
                due.is("tome(1, 3)", cot.tome(1, 3), 1);
                due.is("tome(0, 3)", cot.tome(0, 3), 0);
                due.is("twice", cot.read(1, 2, then == 1), NONE);
                cot.goes(1);
                due.is("in another HOUSE", cot.read(1, 2, then == 1), NONE);
                due.is("the other BOOK", cot.read(0, 2, then == 1) != NONE, true);
                cot.night();
                due.is("the next NIGHT", cot.read(1, 2, then == 1) != NONE, true);
            }
        }
    }

    // ---- MILK, going, VOICE

    private void milkUpTo99() {
        due.part("13: MILK, 99 at most");
        int[] calms = {0, 95, 96, 97, 98, 99};
        int[] want = {3, 98, 99, 99, 99, 99};
        for (int i = 0; i < calms.length; i++) {
            MonsterCot cot = Due.cot("b;h;sc" + calms[i], "");
            due.is("from " + calms[i], cot.milk(), want[i]);
            due.is("rule(0)", cot.rule(0), want[i]);
            due.is("ACTS", cot.count(15), 1);
        }
    }

    private void milkOnceANight() {
        due.part("13: MILK once a NIGHT");
        MonsterCot cot = Due.cot("sc10l0e1;b;h;h", "");
        due.is("none yet", cot.count(10), 0);
        due.is("once", cot.milk(), 13);
        due.is("count(10)", cot.count(10), 1);
        due.is("twice", cot.milk(), NONE);
        cot.goes(1);
        due.is("in another HOUSE", cot.milk(), NONE);
        due.is("CALM", cot.rule(0), 13);
        due.is("two ACTS", cot.count(15), 2);
        cot.night();
        due.is("count(10) behind the NIGHT", cot.count(10), 0);
        due.is("the next NIGHT", cot.milk(), 16);
    }

    private void goesToAnother() {
        due.part("14: GOES to another HOUSE");
        for (int houses = 1; houses <= 6; houses++) {
            for (int house : new int[] {LEAST, -1, 0, 1, houses - 1, houses, 6, MOST}) {
                MonsterCot cot = Due.cot("b" + ";h".repeat(houses), "");
                boolean can = house > 0 && house < houses;
                due.is("goes(" + house + ") of " + houses, cot.goes(house), can ? house : NONE);
                due.is("where it is", cot.count(7), can ? house : 0);
                due.is("went", cot.count(11), can ? 1 : 0);
                due.is("ACTS", cot.count(15), can ? 1 : 0);
            }
        }
    }

    private void goesOnceANight() {
        due.part("14: once a NIGHT");
        MonsterCot cot = Due.cot("b;h;h;h", "");
        due.is("not where it is", cot.goes(0), NONE);
        due.is("it did not go", cot.count(11), 0);
        due.is("goes(2)", cot.goes(2), 2);
        due.is("goes(1), twice", cot.goes(1), NONE);
        due.is("goes(0), back", cot.goes(0), NONE);
        due.is("goes(2), it is there", cot.goes(2), NONE);
        due.is("where it is", cot.count(7), 2);
        cot.night();
        due.is("it did not go this NIGHT", cot.count(11), 0);
        due.is("goes(0), it is there by its turn", cot.goes(0), NONE);
        due.is("goes(1)", cot.goes(1), 1);
    }

    private void voicesNoughtToNine() {
        due.part("15: VOICE 0 .. 9");
        for (int v : new int[] {LEAST, -2, -1, 0, 4, 5, 6, 9, 10, 11, MOST}) {
            MonsterCot cot = Due.cot("b;h;h", "");
            boolean can = v >= 0 && v <= 9 && v != 5;
            due.is("voice(1, " + v + ")", cot.voice(1, v), can ? 5 : NONE);
            due.is("VOICE now", Due.houseOf(cot, 1, 2), can ? v : 5);
            due.is("the other one's", Due.houseOf(cot, 0, 2), 5);
            due.is("ACTS", cot.count(15), can ? 1 : 0);
        }
        MonsterCot cot = Due.cot("b;hv0;hv9", "");
        due.is("0, it is so", cot.voice(0, 0), NONE);
        due.is("9, it is so", cot.voice(1, 9), NONE);
        due.is("0 was it", cot.voice(0, 9), 0);
        due.is("9 was it", cot.voice(1, 0), 9);
        for (int house : new int[] {LEAST, -1, 2, 3, 6, MOST}) {
            due.is("voice(" + house + ", 1)", cot.voice(house, 1), NONE);
        }
        due.is("ACTS in all", cot.count(15), 2);
    }

    // ---- NIGHTS

    private void enoughOrNot() {
        due.part("16: CALM is ENOUGH");
        for (int enough : new int[] {1, 25, 99}) {
            for (int more = -1; more <= 1; more++) {
                int calm = enough + more;
                if (calm <= 99) {
                    MonsterCot cot = Due.cot("b;hn4;sl0c" + calm + "e" + enough, "");
                    due.is("ASLEEP, " + calm + " of " + enough, cot.all(1), more >= 0 ? 1 : 0);
                    due.is("night(), " + calm + " of " + enough, cot.night(), more >= 0 ? 4 : 0);
                    due.is("slept", cot.count(8), more >= 0 ? 4 : 0);
                    due.is("AWAKE", cot.count(9), more >= 0 ? 0 : 4);
                    due.is("CALM", cot.rule(0), more >= 0 ? calm : Math.max(0, calm - 2));
                }
            }
        }
    }

    /** CALM behind a NIGHT. */
    private void calmBehind(int calm, int enough, int loses, int want) {
        MonsterCot cot = Due.cot("b;h;sc" + calm + "e" + enough + "l" + loses, "");
        cot.night();
        due.is(calm + " of " + enough + " less " + loses, cot.rule(0), want);
    }

    private void calmLosesDownToNought() {
        due.part("16: CALM LOSES, 0 at least");
        calmBehind(9, 1, 8, 1);
        calmBehind(8, 1, 8, 0);
        calmBehind(7, 1, 8, 0);
        calmBehind(31, 1, 30, 1);
        calmBehind(30, 1, 30, 0);
        calmBehind(29, 1, 30, 0);
        calmBehind(99, 99, 0, 99);
        due.part("16: 2 less besides, if it was not ENOUGH");
        calmBehind(11, 99, 8, 1);
        calmBehind(10, 99, 8, 0);
        calmBehind(9, 99, 8, 0);
        calmBehind(8, 99, 8, 0);
        calmBehind(3, 99, 0, 1);
        calmBehind(2, 99, 0, 0);
        calmBehind(1, 99, 0, 0);
        calmBehind(0, 99, 0, 0);
        calmBehind(0, 1, 30, 0);
        calmBehind(98, 99, 30, 66);
        // It was ENOUGH as it began, though it is not behind.
        calmBehind(25, 25, 8, 17);
        calmBehind(24, 25, 8, 14);
    }

    private void sleepersAndThoseAwake() {
        due.part("16: CHILDREN of the HOUSE where it is");
        for (int children : new int[] {0, 1, 9}) {
            MonsterCot cot = Due.cot("sc25;b;hn5;hn" + children, "");
            cot.goes(1);
            due.is("asleep", cot.night(), children);
            due.is("slept in all", cot.count(8), children);
            due.is("AWAKE in all", cot.count(9), 0);
            due.is("none of the others", cot.night(), 0);
            due.is("slept in all then", cot.count(8), children);
            due.is("AWAKE in all then", cot.count(9), 5);
        }
    }

    private void fathersRest() {
        due.part("16: each FATHER is 6 less TIRED, 0 at least");
        int[] pages = {1, 5, 6, 7, 9};
        int[] want = {0, 0, 0, 1, 3};
        for (int i = 0; i < pages.length; i++) {
            MonsterCot cot = Due.cot("bp9;bp9;h;h;h", "");
            cot.read(0, pages[i], false);
            cot.goes(2);
            cot.read(1, pages[i], false);
            cot.night();
            due.is("where it was not, " + pages[i], Due.houseOf(cot, 0, 3), want[i]);
            due.is("nor ever", Due.houseOf(cot, 1, 3), 0);
            due.is("where it was, " + pages[i], Due.houseOf(cot, 2, 3), want[i]);
        }
        MonsterCot cot = Due.cot("bp9;bp9;bp9;bp9;bp9;hs40", "");
        for (int book = 0; book < 5; book++) {
            cot.read(book, book < 4 ? 9 : 4, false);
        }
        for (int tired = 34; tired > 0; tired -= 6) {
            cot.night();
            due.is("6 less", Due.houseOf(cot, 0, 3), tired);
        }
        cot.night();
        due.is("0 at last", Due.houseOf(cot, 0, 3), 0);
        due.is("all left", cot.left(0), 40);
    }

    private void boredNoMore() {
        due.part("16: of each KIND one less BORED, 0 at least");
        MonsterCot cot = Due.cot("bk0;bk1;bk1;bk3;bk3;bk3;hs40", "");
        for (int book = 0; book < 6; book++) {
            cot.read(book, 1, false);
        }
        int[][] want = {{1, 2, 0, 3}, {0, 1, 0, 2}, {0, 0, 0, 1}, {0, 0, 0, 0}, {0, 0, 0, 0}};
        for (int night = 0; night < want.length; night++) {
            for (int kind = 0; kind < 4; kind++) {
                due.is("NIGHT " + night + " KIND " + kind, cot.bored(kind), want[night][kind]);
            }
            cot.night();
        }
    }

    private void nightForgetsTheEvening() {
        due.part("16: BOOKS, MILK, going can be again");
        MonsterCot cot = Due.cot("sc50;b;b;h;h;h", "");
        for (int night = 0; night < 3; night++) {
            due.is("READ", cot.read(0, 1, false) != NONE, true);
            due.is("SKIPPED", cot.read(1, 2, true) != NONE, true);
            due.is("MILK", cot.milk() != NONE, true);
            due.is("going", cot.goes((cot.count(7) + 1) % 3) != NONE, true);
            due.is("all of it was", cot.tome(0, 3) + cot.tome(1, 3) + cot.count(10) + cot.count(11), 4);
            cot.night();
            due.is("none of it was", cot.tome(0, 3) + cot.tome(1, 3) + cot.count(10) + cot.count(11), 0);
        }
    }

    private void nextHouseGoesRound() {
        due.part("16: the next HOUSE, behind the last one 0");
        for (int houses = 1; houses <= 6; houses++) {
            MonsterCot cot = Due.cot("b" + ";h".repeat(houses), "");
            for (int night = 0; night <= 2 * houses; night++) {
                due.is("NIGHT " + night + " of " + houses, cot.count(7), night % houses);
                cot.night();
            }
            cot = Due.cot("b" + ";h".repeat(houses), "");
            cot.goes(houses - 1);
            cot.night();
            due.is("behind the last one", cot.count(7), 0);
        }
    }

    private void turnsOfThatHouse() {
        due.part("16: TURNS of that HOUSE");
        MonsterCot cot = Due.cot("b;h;h;h", "");
        cot.goes(2);
        due.is("none by going", Due.houseOf(cot, 2, 4), 0);
        cot.night();
        cot.night();
        cot.goes(2);
        cot.night();
        int[] want = {1, 0, 2};
        for (int house = 0; house < 3; house++) {
            due.is("HOUSE " + house, Due.houseOf(cot, house, 4), want[house]);
        }
    }

    /** As many NIGHTS by, within 400 calls. */
    private static MonsterCot afterNights(String landing, int nights) {
        MonsterCot cot = Due.cot(landing, "");
        for (int i = 0; i < nights / 30; i++) {
            cot.years(30, 7);
        }
        if (nights % 30 > 0) {
            cot.years(nights % 30, 7);
        }
        return cot;
    }

    private void nightUpTo9999() {
        due.part("16: NIGHT 0 at first, 9,999 at most");
        due.is("0 at first", Due.cot("b;h", "").count(6), 0);
        MonsterCot cot = afterNights("sc99l0e1;b;hn3;hn4", 9998);
        due.is("9,998", cot.count(6), 9998);
        due.is("one goes by", cot.night(), 3);
        due.is("9,999", cot.count(6), 9999);
        int slept = cot.count(8);
        due.is("none goes by then", cot.night(), NONE);
        due.is("nor then", cot.night(), NONE);
        due.is("9,999 still", cot.count(6), 9999);
        due.is("nobody more slept", cot.count(8), slept);
        due.is("it is where it was", cot.count(7), 1);
        due.is("40 ACTS", cot.count(15), 40);
        due.is("what else can be", cot.milk() + cot.read(0, 1, false) + cot.goes(0), 99 + 99);
        due.is("undo()", cot.undo(), 39);
        cot.undo();
        cot.undo();
        cot.undo();
        due.is("9,998 again", cot.count(6), 9998);
        due.is("it goes by again", cot.night(), 3);
        due.is("once", cot.night(), NONE);
    }

    // ---- LOG and ACTS

    private void logOfSixty() {
        due.part("19: the latest 60");
        // CALM is 99 less the NIGHT, so that each entry tells which it is.
        MonsterCot cot = Due.cot("sc99e1l1;b;hn1;hn2", "");
        due.is("none", cot.count(14), 0);
        due.is("log(0, 1) of none", cot.log(0, 1), NONE);
        for (int nights = 1; nights <= 62; nights++) {
            cot.night();
            int size = Math.min(nights, 60);
            due.is("how long behind " + nights, cot.count(14), size);
            due.is("the latest of " + nights, cot.log(0, 1), 99 - (nights - 1));
            due.is("the first of " + nights, cot.log(size - 1, 1), 99 - (nights - size));
            due.is("none ahead of it", cot.log(size, 1), NONE);
        }
        for (int i = 0; i < 60; i++) {
            due.is("entry " + i, cot.log(i, 1), 99 - 61 + i);
        }
    }

    private void whatOfLog() {
        due.part("19: log");
        MonsterCot cot = Due.cot("sc30e25l5;b;hn3;hn4", "");
        cot.goes(1);
        cot.night();
        cot.night();
        cot.night();
        int[][] want = {{1, 20, 0}, {0, 25, 3}, {1, 30, 4}};
        for (int i : new int[] {LEAST, -1, 0, 1, 2, 3, 59, 60, MOST}) {
            for (int what : new int[] {LEAST, -1, 0, 1, 2, 3, MOST}) {
                boolean there = i >= 0 && i < 3 && what >= 0 && what < 3;
                due.is("log(" + i + ", " + what + ")", cot.log(i, what), there ? want[i][what] : NONE);
            }
        }
    }

    private void fortyActs() {
        due.part("18: the latest 40 ACTS");
        for (int acts : new int[] {0, 1, 39, 40, 41, 42, 80, 81}) {
            MonsterCot cot = Due.cot("b;hv0", "");
            for (int i = 1; i <= acts; i++) {
                cot.voice(0, i % 10);
            }
            int can = Math.min(acts, 40);
            due.is("count(15) behind " + acts, cot.count(15), can);
            for (int i = 1; i <= can; i++) {
                due.is("undo() " + i + " of " + acts, cot.undo(), can - i);
                due.is("VOICE", Due.houseOf(cot, 0, 2), (acts - i) % 10);
            }
            due.is("none more", cot.undo(), NONE);
            due.is("VOICE as it was", Due.houseOf(cot, 0, 2), (acts - can) % 10);
            due.is("count(15)", cot.count(15), 0);
            due.is("an ACT then", cot.milk(), 13);
            due.is("count(15) of one", cot.count(15), 1);
        }
    }

    private void eachActIsUndone() {
        due.part("18: all these are ACTS");
        MonsterCot cot = Due.cot("sc30;bp4;bp4k1;h;h;h", "");
        due.is("READ", cot.read(0, 4, false), 46);
        due.is("SKIPPED", cot.read(1, 4, true), 53);
        due.is("MILK", cot.milk(), 56);
        due.is("GOES", cot.goes(2), 2);
        due.is("VOICE", cot.voice(1, 9), 5);
        due.is("NIGHT", cot.night(), 2);
        due.is("NIGHTS, the last one AWAKE", cot.night() + cot.night() + cot.night() + cot.night(), 6);
        due.is("AWAKE", cot.count(9), 2);
        due.is("undo() of the last one", cot.undo(), 9);
        due.is("nobody was AWAKE", cot.count(9), 0);
        due.is("eight slept", cot.count(8), 8);
        cot.undo();
        cot.undo();
        cot.undo();
        due.is("undo() of the NIGHT", cot.undo(), 5);
        due.is("NIGHT 0", cot.count(6), 0);
        due.is("CALM", cot.rule(0), 56);
        due.is("nobody slept", cot.count(8), 0);
        due.is("TURNS", Due.houseOf(cot, 2, 4), 0);
        due.is("TIRED", Due.houseOf(cot, 0, 3), 7);
        due.is("BORED", cot.bored(0) + cot.bored(1), 2);
        due.is("what was this NIGHT", cot.tome(0, 3) + cot.tome(1, 3) + cot.count(10) + cot.count(11), 4);
        due.is("undo() of VOICE", cot.undo(), 4);
        due.is("VOICE as it was", Due.houseOf(cot, 1, 2), 5);
        due.is("undo() of GOES", cot.undo(), 3);
        due.is("where it was", cot.count(7), 0);
        due.is("it can go", cot.count(11), 0);
        due.is("undo() of MILK", cot.undo(), 2);
        due.is("CALM without", cot.rule(0), 53);
        due.is("no MILK", cot.count(10), 0);
        due.is("undo() of SKIPPED", cot.undo(), 1);
        due.is("CALM ahead", cot.rule(0), 46);
        due.is("BORED by KIND 1", cot.bored(1), 0);
        due.is("TIRED ahead", Due.houseOf(cot, 0, 3), 4);
        due.is("not READ", cot.tome(1, 3), 0);
        due.is("undo() of READ", cot.undo(), 0);
        due.is("CALM at first", cot.rule(0), 30);
        due.is("none more", cot.undo(), NONE);
        due.is("each again", cot.read(0, 4, false) + cot.milk() + cot.goes(1), 46 + 49 + 1);
    }

    private void whatIsNoAct() {
        due.part("18: what is no ACT");
        MonsterCot cot = Due.cot("b;h;h", "y:1");
        Due.keep(cot, 2, "m");
        cot.law(NONE);
        cot.hush(5);
        cot.seen(0, 1, 0, 1, true);
        cot.image();
        cot.run(0, 0);
        cot.roster(0, 0);
        cot.least(0);
        due.is("none so far", cot.count(15), 0);
        cot.milk();
        cot.law(0);
        cot.hush(6);
        cot.seen(0, 1, 0, 1, true);
        due.is("undo()", cot.undo(), 0);
        due.is("the LAW holds still", cot.count(5), 0);
        due.is("HUSH", cot.count(12), 6);
        due.is("SEEN", cot.count(13), 2);
        due.is("no MILK", cot.count(10), 0);
    }

    private void logIsUndone() {
        due.part("18: LOG, too");
        MonsterCot cot = Due.cot("sc99e1l1;b;h", "");
        cot.night();
        cot.night();
        cot.undo();
        due.is("one entry", cot.count(14), 1);
        due.is("the first one", cot.log(0, 1), 99);
        due.is("no other one", cot.log(1, 1), NONE);
        for (int night = 1; night < 70; night++) {
            cot.night();
        }
        due.is("the latest 60 of 70", cot.log(59, 1), 89);
        for (int i = 0; i < 40; i++) {
            int first = Math.max(0, 69 - i - 60);
            cot.undo();
            due.is("how long", cot.count(14), Math.min(60, 69 - i));
            due.is("the latest", cot.log(0, 1), 99 - (68 - i));
            due.is("the first is there again", cot.log(cot.count(14) - 1, 1), 99 - first);
        }
        due.is("none more", cot.undo(), NONE);
        due.is("30 entries", cot.count(14), 30);
        cot.milk();
        cot.night();
        due.is("another one instead", cot.log(0, 1), 99 - 30 + 3);
    }
}

/** Edges of what is found out apart: each sentence of ==== 3., and promises 20 to 38. */
final class ApartEdgesTest {
    private static final int NONE = Due.NONE;
    private static final int HIDDEN = Due.HIDDEN;
    private static final int LEAST = Integer.MIN_VALUE;
    private static final int MOST = Integer.MAX_VALUE;

    private final Due due = new Due();

    public static void main(String[] args) {
        ApartEdgesTest test = new ApartEdgesTest();
        test.whatOfSteps();
        test.whatOfRuns();
        test.firstStepThatCantBe();
        test.sleepersOfRuns();
        test.runsUpTo9999();
        test.performedSteps();
        test.calmsByStrength();
        test.whatOfLeast();
        test.noRowIfEnough();
        test.rowsOfThreeAtMost();
        test.rowsOfUnlikeBooks();
        test.rowsByStrength();
        test.leastRowOfSeveral();
        test.bestOfOneToNine();
        test.bestThatCanBeRead();
        test.bestOfSeveral();
        test.whatOfRosters();
        test.rostersByReadings();
        test.rostersOfThatBook();
        test.rostersOfSeveral();
        test.nightsBehind9999();
        test.seenOfThoseThere();
        test.tenSeen();
        test.seenCalmOrMore();
        test.seenAsItBegins();
        test.twentyAtMostEach();
        test.whichLikes();
        test.booksToTry();
        test.booksToTryOfSeveral();
        test.setsOfWhich();
        test.setsThatCanBeRead();
        test.gamesOfThoseThere();
        test.gainsOfGames();
        test.boredOnceMoreByTheFirst();
        test.restsOfThoseThere();
        test.oddsOfMeasles();
        test.lastsNoughtToTwenty();
        test.lastsInThatHouse();
        test.quietNoughtToSixty();
        test.whatOfAll();
        test.lowestOfSeveral();
        test.freshAndOpen();
        test.pagesOfKinds();
        test.leftOfHouses();
        test.due.end();
    }

    private static String houses(int many) {
        return ";h".repeat(many);
    }

    /** At NIGHT 9,999 of that LANDING by that LAW. */
    private static MonsterCot late(String landing, String law) {
        MonsterCot cot = Due.cot(landing, law);
        for (int i = 0; i < 333; i++) {
            cot.years(30, 3);
        }
        cot.years(9, 3);
        return cot;
    }

    // ---- WEEKS

    private void whatOfSteps() {
        due.part("20: step");
        MonsterCot cot = new MonsterCot();
        due.is("step(0, 0, 0) of none", cot.step(0, 0, 0), HIDDEN);
        Due.keep(cot, 2, "r09;k90;m;n;g9");
        Due.keep(cot, 2, "g0");
        int[][] first = {{0, 0, 9}, {1, 9, 0}, {2, NONE, NONE}, {3, NONE, NONE}, {4, 9, NONE}};
        for (int week : new int[] {LEAST, -1, 0, 1, 2, 4, MOST}) {
            for (int i : new int[] {LEAST, -1, 0, 1, 2, 3, 4, 5, 15, 16, MOST}) {
                for (int what : new int[] {LEAST, -1, 0, 1, 2, 3, MOST}) {
                    int want = HIDDEN;
                    if (week == 0 && i >= 0 && i < 5 && what >= 0 && what < 3) {
                        want = first[i][what];
                    } else if (week == 1 && i == 0 && what >= 0 && what < 3) {
                        want = what == 0 ? 4 : what == 1 ? 0 : NONE;
                    }
                    if (want != HIDDEN || Math.abs(what) < 4) {
                        due.is("step(" + week + ", " + i + ", " + what + ")", cot.step(week, i, what), want);
                    }
                }
            }
        }
    }

    private void whatOfRuns() {
        due.part("21: run, 22: perform");
        MonsterCot cot = Due.cot("sc99;b;hn3", "");
        due.is("run(0, 0) of none", cot.run(0, 0), HIDDEN);
        due.is("perform(0) of none", cot.perform(0), NONE);
        Due.keep(cot, 2, "n;m");
        Due.keep(cot, 2, "g0");
        int[][] want = {{NONE, 3}, {0, 0}};
        for (int week : new int[] {LEAST, -1, 0, 1, 2, 4, MOST}) {
            for (int what : new int[] {LEAST, -1, 0, 1, 2, MOST}) {
                boolean there = week >= 0 && week < 2 && what >= 0 && what < 2;
                due.is("run(" + week + ", " + what + ")", cot.run(week, what), there ? want[week][what] : HIDDEN);
            }
            if (week != 0 && week != 1) {
                due.is("perform(" + week + ")", cot.perform(week), NONE);
            }
        }
        due.is("nothing was done", cot.count(15), 0);
        MonsterCot bare = new MonsterCot();
        Due.keep(bare, 2, "n");
        due.is("run(0, 0) without a LANDING", bare.run(0, 0), HIDDEN);
        due.is("run(0, 1) without a LANDING", bare.run(0, 1), HIDDEN);
        due.is("perform(0) without a LANDING", bare.perform(0), NONE);
    }

    /** Behind how many STEPS of that WEEK the first is that can't be; DO does as many. */
    private void cantBe(String week, int want) {
        MonsterCot cot = Due.cot("sc50;bp4;bp1k1;hs5;h", "");
        Due.keep(cot, 2, week);
        due.is("run(0, 0) of " + week, cot.run(0, 0), want);
        due.is("nothing was done by it", cot.count(15) + cot.count(6) + cot.count(14), 0);
        int steps = (week.length() - week.replace(";", "").length()) + 1;
        due.is("perform(0) of " + week, cot.perform(0), want == NONE ? steps : want);
        due.is("ACTS of " + week, cot.count(15), want == NONE ? steps : want);
    }

    private void firstStepThatCantBe() {
        due.part("21: the first STEP that can't be");
        cantBe("r20", 0);
        cantBe("r21", 0);
        cantBe("r00", 0);
        cantBe("r01", NONE);
        cantBe("r04", NONE);
        cantBe("r05", 0);
        cantBe("r04;r11", NONE);
        cantBe("r04;g1;r11;n;r04;r11", NONE);
        cantBe("r03;k02", 1);
        cantBe("k01", 0);
        cantBe("k02", NONE);
        cantBe("k04", NONE);
        cantBe("k05", 0);
        cantBe("k12", 0);
        cantBe("m;m", 1);
        cantBe("m;n;m", NONE);
        cantBe("g0", 0);
        cantBe("g1", NONE);
        cantBe("g2", 0);
        cantBe("g1;g0", 1);
        cantBe("n;g1", 1);
        cantBe("n;g0", NONE);
        cantBe("n;n;n;n;n;n;n;n;n;n;n;n;n;n;n;n", NONE);
        cantBe("n;n;n;n;n;n;n;n;n;n;n;n;n;n;m;m", 15);
        cantBe("g9;n", 0);
        // Five pages are all his STRENGTH: no sixth.
        MonsterCot cot = Due.cot("bp4;bp2k1;hs5", "");
        Due.keep(cot, 2, "r04;r12");
        Due.keep(cot, 2, "r04;r11");
        Due.keep(cot, 2, "r04;k12");
        due.is("six pages", cot.run(0, 0), 1);
        due.is("five pages", cot.run(1, 0), NONE);
        due.is("five pages, one SKIPPED", cot.run(2, 0), NONE);
    }

    private void sleepersOfRuns() {
        due.part("21: how many sleep");
        MonsterCot cot = Due.cot("sc99l0e1;b;hn3;hn4", "");
        Due.keep(cot, 2, "m;g1");
        Due.keep(cot, 2, "n;n;g9;n;n");
        Due.keep(cot, 2, "g1;n;g9");
        Due.keep(cot, 2, "g9;n");
        due.is("without a NIGHT", cot.run(0, 1), 0);
        due.is("up to what can't be", cot.run(1, 1), 7);
        due.is("where it goes", cot.run(2, 1), 4);
        due.is("what can't be is first", cot.run(3, 1), 0);
        due.is("nobody slept so far", cot.count(8), 0);
        due.is("perform(1)", cot.perform(1), 2);
        due.is("they did now", cot.count(8), 7);
        due.part("21: STEPS do as ACTS do");
        cot = Due.cot("sc20e22l0;bp4c3;hn3v0;hn4", "");
        // 26 by three pages less 5 is 24; by two pages 21.
        Due.keep(cot, 2, "k04;n");
        Due.keep(cot, 2, "k03;n");
        Due.keep(cot, 2, "r01;n");
        Due.keep(cot, 2, "m;n");
        int[] sleeping = {3, 0, 3, 3};
        for (int week = 0; week < 4; week++) {
            due.is("WEEK " + week, cot.run(week, 1), sleeping[week]);
        }
        due.is("perform(1)", cot.perform(1), 2);
        due.is("CALM as it began", cot.log(0, 1), 21);
    }

    private void runsUpTo9999() {
        due.part("21: NIGHTS up to 9,999 in RUN");
        MonsterCot cot = late("sc99l0e1;b;hn3", "");
        cot.undo();
        Due.keep(cot, 2, "n;m;n;m");
        due.is("9,998", cot.count(6), 9998);
        due.is("one goes by", cot.run(0, 0), 2);
        due.is("three sleep", cot.run(0, 1), 3);
        due.is("perform(0)", cot.perform(0), 2);
        due.is("9,999", cot.count(6), 9999);
        due.is("none goes by", cot.run(0, 0), 0);
        due.is("nobody sleeps", cot.run(0, 1), 0);
        due.is("perform(0) of none", cot.perform(0), 0);
    }

    private void performedSteps() {
        due.part("22: STEPS as ACTS");
        MonsterCot cot = Due.cot("sc99l0e1;b;h;h", "");
        Due.keep(cot, 2, "n;n;n;n;n;n;n;n;n;n;n;n;n;n;n;n");
        Due.keep(cot, 2, "g0;n");
        for (int i = 1; i <= 3; i++) {
            due.is("perform(0)", cot.perform(0), 16);
            due.is("ACTS", cot.count(15), Math.min(40, 16 * i));
            due.is("LOG", cot.count(14), 16 * i);
        }
        due.is("the first can't be", cot.perform(1), 0);
        due.is("ACTS as they were", cot.count(15), 40);
        due.is("undo() of one", cot.undo(), 39);
        due.is("NIGHT", cot.count(6), 47);
    }

    // ---- readings

    private void calmsByStrength() {
        due.part("23: CALMS");
        MonsterCot cot = Due.cot("sc10;bp9c1;bp9c2k1;hv0s9;hv0s1", "");
        for (int book : new int[] {LEAST, -1, 2, 6, MOST}) {
            due.is("calms(" + book + ", 1)", cot.calms(book, 1), NONE);
        }
        for (int pages : new int[] {LEAST, -1, 0, 10, MOST}) {
            due.is("calms(0, " + pages + ")", cot.calms(0, pages), NONE);
        }
        due.is("all of it", cot.calms(0, 9), 19);
        cot.read(0, 4, false);
        due.is("READ: five left", cot.calms(0, 5), 14);
        due.is("six", cot.calms(0, 6), NONE);
        due.is("the other one", cot.calms(1, 5), 24);
        due.is("six of it", cot.calms(1, 6), NONE);
        due.is("nothing is done", cot.count(15), 1);
        cot.goes(1);
        due.is("one page", cot.calms(0, 1), 14);
        due.is("two pages", cot.calms(0, 2), NONE);
        due.is("of none", new MonsterCot().calms(0, 1), NONE);
    }

    private void leastIs(String landing, int pages, int row) {
        MonsterCot cot = Due.cot(landing, "");
        due.is("least(0) of " + landing, cot.least(0), pages);
        due.is("least(1) of " + landing, cot.least(1), row);
    }

    private void whatOfLeast() {
        due.part("24: least");
        MonsterCot cot = Due.cot("sc24;b;h", "");
        MonsterCot calm = Due.cot("sc25;b;h", "");
        for (int what : new int[] {LEAST, -1, 0, 1, 2, MOST}) {
            boolean there = what >= 0 && what < 2;
            due.is("least(" + what + ")", cot.least(what), there ? 1 : NONE);
            due.is("least(" + what + ") of ENOUGH", calm.least(what), there ? 0 : NONE);
            due.is("least(" + what + ") of none", new MonsterCot().least(what), NONE);
        }
        due.is("nothing is done", cot.count(15), 0);
    }

    private void noRowIfEnough() {
        due.part("24: no row, if it is ENOUGH");
        leastIs("sc26e25;bc9;h", 0, 0);
        leastIs("sc25e25;bc9;h", 0, 0);
        leastIs("sc24e25;bc9;h", 1, 1);
        leastIs("sc99e99;bc0;hv0", 0, 0);
        // 99 cannot be had from 0 by nine pages of 9 and a VOICE of 3: 12 more by each of BORED none.
        leastIs("sc0e99;bp9c9;hv6s40", 9, 9);
        leastIs("sc0e99;bp8c9;hv6s40", NONE, NONE);
    }

    private void rowsOfThreeAtMost() {
        due.part("24: 1 .. 3 BOOKS");
        String four = ";bp1c1;bp1c1k1;bp1c1k2;bp1c1k3;hv0s40";
        leastIs("sc0e1" + four, 1, 1);
        leastIs("sc0e2" + four, 2, 111);
        leastIs("sc0e3" + four, 3, 11121);
        leastIs("sc0e4" + four, NONE, NONE);
        leastIs("sc0e30;bp1c0;bp1c0;bp1c0;bp9c3;bp9c3k1;bp9c3k2;hv0s40", 10, 3149);
        leastIs("sc0e81;bp1c0;bp1c0;bp1c0;bp9c3;bp9c3k1;bp9c3k2;hv0s40", 27, 394959);
        leastIs("sc0e82;bp1c0;bp1c0;bp1c0;bp9c3;bp9c3k1;bp9c3k2;hv0s40", NONE, NONE);
    }

    private void rowsOfUnlikeBooks() {
        due.part("24: unlike BOOKS not READ this NIGHT");
        leastIs("sc0e2;bp2c1;hv0", 2, 2);
        leastIs("sc0e3;bp2c1;hv0", NONE, NONE);
        MonsterCot cot = Due.cot("sc0e9;bp3c3;bp1c2k1;bp9c1k2;hv0s40", "");
        due.is("three pages", cot.least(1), 3);
        cot.read(0, 1, false);
        due.is("3 so far, 2 and 4 by 1", cot.least(0), 5);
        due.is("BOOK 1 and 2", cot.least(1), 1124);
        cot.read(2, 1, false);
        due.is("4 and 2", cot.least(0), NONE);
        due.is("no row", cot.least(1), NONE);
        cot.read(1, 1, false);
        due.is("all are READ", cot.least(0), NONE);
        cot.night();
        due.is("the next NIGHT", cot.least(0) > 0, true);
    }

    private void rowsByStrength() {
        due.part("24: by STRENGTH");
        leastIs("sc0e9;bp9c1;hv0s9", 9, 9);
        leastIs("sc0e9;bp9c1;hv0s8", NONE, NONE);
        leastIs("sc0e4;bp2c1;bp2c1k1;hv0s4", 4, 212);
        leastIs("sc0e4;bp2c1;bp2c1k1;hv0s3", NONE, NONE);
        MonsterCot cot = Due.cot("sc0e9;bp9c1;bp1c0k1;hv0s10", "");
        cot.read(1, 1, false);
        due.is("nine left", cot.least(0), 9);
        cot = Due.cot("sc0e9;bp9c1;bp2c0k1;hv0s10", "");
        cot.read(1, 2, false);
        due.is("eight left", cot.least(0), NONE);
        due.is("TIRED page by page: 0 to 8", Due.cot("sc0e36;bp9;hs9", "y:t").least(0), 9);
        due.is("not 37", Due.cot("sc0e37;bp9;hs9", "y:t").least(0), NONE);
        due.part("24: by how BORED it is");
        cot = Due.cot("sc0e4;bp1c4;bp1c4;bp1c3;hv0", "");
        due.is("by one", cot.least(1), 1);
        cot = Due.cot("sc0e9;bp1c4;bp1c4;bp1c3;hv0", "");
        due.is("4, 3 and 1", cot.least(0), NONE);
        cot = Due.cot("sc0e8;bp1c4;bp1c4;bp1c3;hv0", "");
        due.is("4, 3 and 1 are 8", cot.least(1), 11121);
        cot.read(0, 1, false);
        due.is("BORED 1: 3 and 1", cot.least(1), 1121);
    }

    private void leastRowOfSeveral() {
        due.part("24: of several the least row");
        leastIs("sc0e3;bp1c3;bp1c3k1;bp1c9k2;hv0", 1, 1);
        // 1 and 3 or 3 and 1 pages, in both orders: 1 of BOOK 0, then 3 of BOOK 1.
        leastIs("sc0e8;bp3c2;bp3c2k1;hv0", 4, 113);
        leastIs("sc0e8;bp3c2;bp4c2k1;hv0", 4, 14);
        leastIs("sc0e8;bp4c2;bp4c2k1;hv0", 4, 4);
        // 213 is less than 1103.
        leastIs("sc0e5;bp3c1;bp3c1k1;hv0", 5, 213);
    }

    private void bestOfOneToNine() {
        due.part("25: BEST for 1 .. 9 pages");
        MonsterCot cot = Due.cot("sc10;bp9c1;bp1c5k1;hv0s40", "");
        for (int pages : new int[] {LEAST, -1, 0, 1, 2, 9, 10, MOST}) {
            boolean there = pages >= 1 && pages <= 9;
            due.is("best(" + pages + ", 0)", cot.best(pages, 0), there ? pages == 1 ? 1 : 0 : NONE);
            due.is("best(" + pages + ", 1)", cot.best(pages, 1), there ? pages == 1 ? 15 : 10 + pages : NONE);
            due.is("best(" + pages + ", -1)", cot.best(pages, -1), NONE);
            due.is("best(" + pages + ", 2)", cot.best(pages, 2), NONE);
        }
        for (int what : new int[] {LEAST, MOST}) {
            due.is("best(1, " + what + ")", cot.best(1, what), NONE);
        }
        due.is("of none", new MonsterCot().best(1, 0), NONE);
        due.is("of none, CALM", new MonsterCot().best(1, 1), NONE);
        due.is("nothing is done", cot.count(15), 0);
    }

    private void bestThatCanBeRead() {
        due.part("25: that can be READ now");
        MonsterCot cot = Due.cot("sc10;bp3c1;bp2c5k1;bp9c9k2;hv0s3", "");
        due.is("two pages", cot.best(2, 0), 2);
        due.is("three", cot.best(3, 1), 37);
        due.is("four, too TIRED", cot.best(4, 0), NONE);
        cot.read(2, 1, false);
        due.is("READ", cot.best(2, 0), 1);
        due.is("three, too TIRED now", cot.best(3, 0), NONE);
        due.is("three, CALM", cot.best(3, 1), NONE);
        cot.read(1, 1, false);
        due.is("one page", cot.best(1, 0), 0);
        cot.read(0, 1, false);
        due.is("all are READ", cot.best(1, 0), NONE);
        due.is("none for so many", Due.cot("bp8;h", "").best(9, 0), NONE);
        due.is("one for so many", Due.cot("bp9;h", "").best(9, 0), 0);
    }

    private void bestOfSeveral() {
        due.part("25: of several the lowest");
        MonsterCot cot = Due.cot("sc10;bp1c1;bp3c3;bp3c3k1;bp3c2k2;hv0", "");
        due.is("two alike", cot.best(1, 0), 1);
        due.is("all at 99", Due.cot("sc99;b;bc9;h", "").best(1, 0), 0);
        due.is("all at 0", Due.cot("sc0;b;bc9;h", "y:0-9").best(1, 0), 0);
        due.is("CALM 0", Due.cot("sc0;b;bc9;h", "y:0-9").best(1, 1), 0);
    }

    // ---- ROSTER

    private void whatOfRosters() {
        due.part("26: roster");
        MonsterCot cot = Due.cot("sc99l0e1;b;bp9;hn3;hn4", "");
        for (int book : new int[] {LEAST, -1, 0, 1, 2, 6, MOST}) {
            for (int what : new int[] {LEAST, -1, 0, 1, 2, MOST}) {
                boolean there = book >= 0 && book < 2 && what >= 0 && what < 2;
                int want = there ? what == 0 ? 1 : 7 : NONE;
                due.is("roster(" + book + ", " + what + ")", cot.roster(book, what), want);
            }
        }
        due.is("nothing is done", cot.count(15) + cot.count(6) + cot.count(8) + cot.count(14), 0);
        due.is("of none", new MonsterCot().roster(0, 0), NONE);
        due.is("of none, how many", new MonsterCot().roster(0, 1), NONE);
    }

    private void rosterIs(MonsterCot cot, String what, int row, int many) {
        due.is(what + ": the row", cot.roster(0, 0), row);
        due.is(what + ": how many", cot.roster(0, 1), many);
    }

    private void rostersByReadings() {
        due.part("26: READS all of the BOOK, if he can");
        // He must read all four pages to be ENOUGH, each NIGHT anew.
        rosterIs(Due.cot("sc0e20l30;bp4c5;hn1v0s4;hn2v0s4", ""), "STRENGTH is just ENOUGH", 1, 3);
        rosterIs(Due.cot("sc0e20l30;bp4c5;hn1v0s4;hn2v0s3", ""), "not of HOUSE 1", 1, 1);
        rosterIs(Due.cot("sc0e20l30;bp4c5;hn1v0s3;hn2v0s3", ""), "of none", 1, 0);
        MonsterCot cot = Due.cot("sc0e20l30;bp4c5;bp1c0k1;hn1v0s4;hn2v0s9", "");
        cot.read(1, 1, false);
        rosterIs(cot, "HOUSE 0 is TIRED this NIGHT", 10, 3);
        cot = Due.cot("sc0e20l30;bp4c5;hn1v0s9;hn2v0s9", "");
        cot.read(0, 1, false);
        rosterIs(cot, "READ this NIGHT: the second alone", 1, 2);
        cot = Due.cot("sc0e20l30;bp4c5;hn1v0s9;hn2v0s9", "");
        cot.goes(1);
        rosterIs(cot, "it went this NIGHT, and is where it was", 1, 3);
        // Six less TIRED a NIGHT: 9 of 9, then 3: six pages can be.
        cot = Due.cot("sc0e6l30;bp6c1;bp9c0k1;hn1v0s9;hn2v0s9", "");
        cot.read(1, 9, false);
        rosterIs(cot, "a NIGHT's rest", 10, 3);
        cot = Due.cot("sc0e7l30;bp7c1;bp9c0k1;hn1v0s9;hn2v0s9", "");
        cot.read(1, 9, false);
        rosterIs(cot, "no rest for seven pages", 1, 2);
    }

    private void rostersOfThatBook() {
        due.part("26: of that BOOK");
        MonsterCot cot = Due.cot("sc0e9l30;bp1c9;bp2c2k1;bp3c3k2;hn1v0;hn2v9", "");
        int[] many = {3, 2, 3};
        for (int book = 0; book < 3; book++) {
            due.is("BOOK " + book, cot.roster(book, 1), many[book]);
        }
        due.part("26: BORED from NIGHT to NIGHT");
        // One more by the reading, one less by the NIGHT: 4 less 0 each.
        rosterIs(Due.cot("sc0e4l30;bp1c4;hn1v0;hn1v0;hn1v0", ""), "not BORED", 12, 3);
        cot = Due.cot("sc0e4l30;bp1c4;bp1c9;hn1v0;hn1v0;hn1v0", "");
        cot.read(1, 1, false);
        // CALM 9, then 0; BORED 1 stays 1: 12, then 3 each.
        rosterIs(cot, "BORED stays as it was", 12, 1);
        cot = Due.cot("sc0e4l30;bp9c4;bp1c9;hn1v0s9;hn1v0s8;hn1v0s9", "");
        cot.read(1, 1, false);
        // HOUSE 0 can't read this NIGHT (9 is ENOUGH), so it is not BORED then: 36 in HOUSE 2, 6 left for HOUSE 1.
        rosterIs(cot, "not BORED behind a NIGHT without", 21, 3);
    }

    private void rostersOfSeveral() {
        due.part("26: of several the least");
        int[] rows = {0, 1, 12, 123, 1234, 12345};
        for (int many = 1; many <= 6; many++) {
            rosterIs(Due.cot("sc99l0e1;b" + houses(many), ""), many + " HOUSES", rows[many - 1], 2 * many);
            rosterIs(Due.cot("sc0e99;bc0" + houses(many), "y:0"), many + " HOUSES, all AWAKE", rows[many - 1], 0);
        }
        // ENOUGH for a single NIGHT: the HOUSE with the most CHILDREN is first, the lowest of those.
        rosterIs(Due.cot("sc9e9l30;b;hn1;hn8;hn9;hn9", "y:0"), "a single NIGHT", 2013, 9);
        rosterIs(Due.cot("sc9e9l30;b;hn9;hn8;hn9;hn9;h;h", "y:0"), "a single NIGHT of six", 12345, 9);
        rosterIs(Due.cot("sc9e9l30;b;hn1;h;h;h;h;hn9", "y:0"), "the last one", 501234, 9);
    }

    private void nightsBehind9999() {
        due.part("NIGHTS go on behind 9,999");
        MonsterCot cot = late("sc0e9l0;bp1;hn1;hn2;hn4", "y:n>9999?9;y:0");
        due.is("CALM 0", cot.rule(0), 0);
        // At 9,999 nobody sleeps; at 10,000 and 10,001 all do.
        rosterIs(cot, "ROSTER", 12, 6);
        cot = late("sc0e99l1;bp1;h", "y:n=9999?9;y:0");
        cot.read(0, 1, false);
        cot.milk();
        due.is("CALM 12", cot.rule(0), 12);
        due.is("QUIET, 3 less each", cot.quiet(), 4);
        cot = late("sc9e9l0;bp1;h", "y:n=9999+4?0-9;y:0");
        due.is("LASTS up to 10,002", cot.lasts(0), 4);
        cot = late("sc9e9l0;bp1;h", "y:n=9999+19?0-9;y:0");
        due.is("LASTS up to 10,017", cot.lasts(0), 19);
        cot = late("sc9e9l0;bp1;h", "y:n=9999+20?0-9;y:0");
        due.is("LASTS up to 10,018", cot.lasts(0), 20);
        due.is("it is 9,999 still", cot.count(6), 9999);
    }

    // ---- SEEN, LIKES, TRY

    private void seenOfThoseThere() {
        due.part("27: no such ones, out of bounds");
        for (int book : new int[] {LEAST, -1, 0, 1, 2, MOST}) {
            MonsterCot cot = Due.cot("bp4;bp9;h;h", "");
            boolean there = book >= 0 && book < 2;
            due.is("BOOK " + book, cot.seen(book, 1, 0, 0, true), there ? 1 : NONE);
            due.is("count(13)", cot.count(13), there ? 1 : 0);
        }
        for (int pages : new int[] {LEAST, -1, 0, 1, 4, 5, 9, 10, MOST}) {
            MonsterCot cot = Due.cot("bp4;bp9;h;h", "");
            due.is(pages + " pages of 4", cot.seen(0, pages, 0, 0, true), pages >= 1 && pages <= 4 ? 1 : NONE);
            int before = cot.count(13);
            due.is(pages + " of 9", cot.seen(1, pages, 0, 0, true), pages >= 1 && pages <= 9 ? before + 1 : NONE);
        }
        for (int house : new int[] {LEAST, -1, 0, 1, 2, 6, MOST}) {
            MonsterCot cot = Due.cot("bp4;bp9;h;h", "");
            due.is("HOUSE " + house, cot.seen(0, 1, house, 0, true), house == 0 || house == 1 ? 1 : NONE);
        }
        for (int v : new int[] {LEAST, -1, 0, 1, 98, 99, 100, MOST}) {
            MonsterCot cot = Due.cot("bp4;bp9;h;h", "");
            due.is("CALM " + v, cot.seen(0, 1, 0, v, true), v >= 0 && v <= 99 ? 1 : NONE);
            due.is("count(13) of CALM " + v, cot.count(13), v >= 0 && v <= 99 ? 1 : 0);
        }
        due.is("of none", new MonsterCot().seen(0, 1, 0, 0, true), NONE);
    }

    private void tenSeen() {
        due.part("27: SEEN, 10 at most");
        MonsterCot cot = Due.cot("sc0;bp1c1;hv0", "");
        for (int i = 1; i <= 9; i++) {
            due.is("SEEN", cot.seen(0, 1, 0, 0, true), i);
        }
        due.is("the tenth", cot.seen(0, 1, 0, 4, true), 10);
        due.is("it counts: KIND 0 alone", cot.likes(NONE), 1);
        due.is("an eleventh", cot.seen(0, 1, 0, 4, false), NONE);
        due.is("count(13)", cot.count(13), 10);
        due.is("it does not count", cot.likes(NONE), 1);
        Due.keep(cot, 0, "b;h");
        due.is("none of another LANDING", cot.count(13), 0);
        due.is("the first of it", cot.seen(0, 1, 0, 0, true), 1);
    }

    /** How many LIKES there are by a single thing SEEN of one page that CALMS 4, 7 by KIND 0. */
    private void likesBy(int v, boolean had, int want) {
        MonsterCot cot = Due.cot("bp1c4;hv0", "");
        cot.seen(0, 1, 0, v, had);
        due.is("CALM " + v + (had ? " or more" : " not"), cot.likes(NONE), want);
    }

    private void seenCalmOrMore() {
        due.part("28: CALM v or more, or not");
        likesBy(0, true, 5);
        likesBy(4, true, 5);
        likesBy(5, true, 1);
        likesBy(7, true, 1);
        likesBy(8, true, 0);
        likesBy(99, true, 0);
        likesBy(0, false, 0);
        likesBy(4, false, 0);
        likesBy(5, false, 4);
        likesBy(7, false, 4);
        likesBy(8, false, 5);
        likesBy(99, false, 5);
        MonsterCot cot = Due.cot("bp9c9;hv9", "");
        cot.seen(0, 9, 0, 99, true);
        due.is("99 at most: all", cot.likes(NONE), 5);
        cot = Due.cot("bp9c9;hv9", "y:0-9");
        cot.seen(0, 9, 0, 0, true);
        due.is("0 at least: all", cot.likes(NONE), 5);
        cot.seen(0, 9, 0, 1, false);
        due.is("and not 1", cot.likes(NONE), 5);
    }

    private void seenAsItBegins() {
        due.part("27: TIRED 0, not BORED, NIGHT 0, CALM 0, STRENGTH does not matter");
        // t goes up from 0 page by page: 0, 1, 2 .. 8 are 36.
        MonsterCot cot = Due.cot("sc50;bp9;hs1", "y:t*[1+b*20]*[1+n*20]");
        cot.read(0, 1, false);
        cot.night();
        cot.read(0, 1, false);
        due.is("TIRED 1 and BORED 1 at NIGHT 1", Due.houseOf(cot, 0, 3) * 100 + cot.bored(0) * 10 + cot.count(6), 111);
        cot.seen(0, 9, 0, 36, true);
        cot.seen(0, 9, 0, 37, false);
        due.is("all but KIND 0", cot.likes(NONE), 4);
        due.is("KIND 1 is the first", cot.likes(0), 1);
        cot = Due.cot("bp1c1;hv0;hv9", "");
        cot.seen(0, 1, 1, 4, true);
        due.is("by the FATHER of that HOUSE", cot.likes(NONE), 5);
        cot.seen(0, 1, 0, 4, true);
        due.is("by the other one only KIND 0", cot.likes(NONE), 1);
    }

    private void twentyAtMostEach() {
        due.part("28: 3 more, 20 at most each");
        int[] worths = {0, 16, 17, 18, 20, 30};
        int[] liked = {3, 19, 20, 20, 20, 20};
        for (int i = 0; i < worths.length; i++) {
            MonsterCot cot = Due.cot("bp2k2;h", "y:" + worths[i]);
            cot.seen(0, 2, 0, 2 * liked[i], true);
            due.is("all or KIND 2, " + worths[i], cot.likes(NONE), worths[i] >= 20 ? 5 : 1);
            cot.seen(0, 2, 0, 2 * liked[i] + 1, false);
            due.is("no more than that, " + worths[i], cot.likes(worths[i] >= 20 ? 2 : 0), 2);
        }
        // -9 at least by the LAW, then 3 more: 9 ahead, 3 left.
        MonsterCot cot = Due.cot("bp2k2;h", "y:p=0?6;y:0-99");
        cot.seen(0, 2, 0, 3, true);
        due.is("6 and 3, less 9, and 3", cot.likes(0), 2);
        cot.seen(0, 2, 0, 4, false);
        due.is("not more", cot.likes(0), 2);
    }

    private void whichLikes() {
        due.part("28: likes");
        MonsterCot cot = Due.cot("bp1c4k1;bp1c4k3;hv0", "");
        int[] which = {LEAST, -2, -1, 0, 1, 2, 3, 4, 5, 9, MOST};
        int[] all = {NONE, NONE, 5, 0, 1, 2, 3, 9, NONE, NONE, NONE};
        int[] some = {NONE, NONE, 3, 0, 2, 9, NONE, NONE, NONE, NONE, NONE};
        int[] none = {NONE, NONE, 0, NONE, NONE, NONE, NONE, NONE, NONE, NONE, NONE};
        for (int i = 0; i < which.length; i++) {
            due.is("likes(" + which[i] + ") of all", cot.likes(which[i]), all[i]);
            due.is("likes(" + which[i] + ") without a LANDING", new MonsterCot().likes(which[i]), NONE);
        }
        cot.seen(0, 1, 0, 5, false);
        cot.seen(1, 1, 0, 5, false);
        for (int i = 0; i < which.length; i++) {
            due.is("likes(" + which[i] + ") of three", cot.likes(which[i]), some[i]);
        }
        cot.seen(0, 1, 0, 99, true);
        for (int i = 0; i < which.length; i++) {
            due.is("likes(" + which[i] + ") of none", cot.likes(which[i]), none[i]);
        }
    }

    private void booksToTry() {
        due.part("29: TRY");
        MonsterCot cot = Due.cot("bp1c4k1;bp1c6k1;hv0;hv9", "");
        for (int house : new int[] {LEAST, -1, 0, 1, 2, 6, MOST}) {
            due.is("probe(" + house + ", 7)", cot.probe(house, 7), house == 0 || house == 1 ? 0 : NONE);
        }
        for (int v : new int[] {LEAST, -1, 0, 7, 8, 9, 10, 99, 100, MOST}) {
            // BOOK 0 is 4 or 7, BOOK 1 is 6 or 9.
            int want = v < 0 || v > 99 ? NONE : v == 8 || v == 9 ? 1 : 0;
            due.is("probe(0, " + v + ")", cot.probe(0, v), want);
        }
        due.is("by the FATHER of that HOUSE: 7 or 10, 9 or 12", cot.probe(1, 11), 1);
        due.is("of none", new MonsterCot().probe(0, 0), NONE);
        cot.seen(0, 1, 0, 99, true);
        due.is("nothing fits", cot.probe(0, 7), NONE);
        due.is("nothing fits, v 0", cot.probe(0, 0), NONE);
        due.part("29: all of it READ so");
        // 8 pages more than the other one, STRENGTH or not, TIRED from 0 on.
        cot = Due.cot("bp1k1;bp9k2;hs1", "y:t");
        cot.read(0, 1, false);
        due.is("36, or 36 and 27", cot.probe(0, 63), 1);
        due.is("not 64", cot.probe(0, 64), 0);
        due.is("37", cot.probe(0, 37), 1);
        due.is("36, all alike", cot.probe(0, 36), 0);
    }

    private void booksToTryOfSeveral() {
        due.part("29: least apart, of several the lowest");
        MonsterCot cot = Due.cot("bp1c1k0;bp1c1k1;bp1c9k1;hv0", "");
        due.is("each alike", cot.probe(0, 4), 0);
        cot.seen(0, 1, 0, 4, false);
        cot.seen(0, 1, 0, 1, true);
        // KIND 0 is out: BOOK 0 tells nothing more, BOOK 1 one of four.
        due.is("BOOK 1 now", cot.probe(0, 4), 1);
        due.is("BOOK 2 by 12", cot.probe(0, 12), 2);
        due.is("none tells", cot.probe(0, 1), 0);
        cot = Due.cot("bp1c0k0;bp1c1k0;hv0", "");
        cot.seen(0, 1, 0, 3, true);
        due.is("one fits: each is one apart", cot.probe(0, 4), 0);
    }

    // ---- WHICH

    private void setsOfWhich() {
        due.part("30: which");
        MonsterCot cot = Due.cot("sc10;bp1c1;bp1c1k1;hv0", "");
        int[] is = {LEAST, -2, -1, 0, 1, 2, MOST};
        int[] want = {NONE, NONE, 2, 1, 2, NONE, NONE};
        for (int i = 0; i < is.length; i++) {
            due.is("which(11, " + is[i] + ")", cot.which(11, is[i]), want[i]);
            due.is("which(11, " + is[i] + ") of none", new MonsterCot().which(11, is[i]), NONE);
        }
        for (int v : new int[] {LEAST, -1, 0, 9, 10, 12, 13, 99, 100, MOST}) {
            int many = v < 0 || v > 99 ? NONE : v == 10 || v == 12 ? 1 : 0;
            due.is("which(" + v + ", NONE)", cot.which(v, NONE), many);
            due.is("which(" + v + ", 0)", cot.which(v, 0), v == 10 ? 0 : v == 12 ? 3 : NONE);
        }
        MonsterCot low = Due.cot("sc5;b;b;h", "y:0-9");
        due.is("CALM 0", low.which(0, NONE), 3);
        due.is("CALM 0, the last set", low.which(0, 2), 3);
        MonsterCot high = Due.cot("sc95;b;b;h", "y:9");
        due.is("CALM 99", high.which(99, NONE), 3);
        due.is("CALM 99, the first set", high.which(99, 0), 1);
        due.is("nothing is done", high.count(15), 0);
    }

    private void setsThatCanBeRead() {
        due.part("30: not READ, that can be READ, all of each");
        String six = "sc0;bp1;bp1;bp1;bp1;bp1;bp1";
        MonsterCot cot = Due.cot(six + ";hs6", "y:0");
        due.is("all 64 sets", cot.which(0, NONE), 64);
        due.is("none of them", cot.which(0, 0), 0);
        due.is("all of them", cot.which(0, 63), 63);
        due.is("no other set", cot.which(0, 64), NONE);
        cot = Due.cot(six + ";hs5", "y:0");
        due.is("all but that of six", cot.which(0, NONE), 63);
        due.is("the last one", cot.which(0, 62), 62);
        cot = Due.cot(six + ";hs1", "y:0");
        due.is("none and single ones", cot.which(0, NONE), 7);
        due.is("the last single one", cot.which(0, 6), 32);
        cot = Due.cot(six + ";hs6", "y:0");
        for (int book = 0; book < 6; book++) {
            cot.read(book, 1, false);
            due.is("without those READ", cot.which(0, NONE), 1 << 5 - book);
        }
        due.is("all are READ: that of none", cot.which(0, 0), 0);
        cot = Due.cot("sc10;bp4c1;bp5c1k1;hv0s8", "");
        due.is("not both", cot.which(19, NONE), 0);
        due.is("all of each", cot.which(14, 0), 1);
        due.is("no part of it", cot.which(13, NONE), 0);
        cot = Due.cot("sc10;bp4c1;bp5c1k1;hv0s9", "");
        due.is("both", cot.which(19, 0), 3);
        // One behind the other by numbers: 99 at most, then less.
        cot = Due.cot("sc95;bp1c9;bp1c0;h", "y:c=9?9;y:0-9");
        due.is("99 less 9", cot.which(90, 0), 3);
        cot = Due.cot("sc95;bp1c0;bp1c9;h", "y:c=9?9;y:0-9");
        due.is("86 and 9", cot.which(95, 1), 3);
    }

    // ---- GAME

    private void gamesOfThoseThere() {
        due.part("31: no such ones, alike, out of bounds");
        MonsterCot cot = Due.cot("sc0e99;bp1c0;bp4c0;h;h;h", "y:0");
        for (int house : new int[] {LEAST, -1, 0, 1, 2, 3, 6, MOST}) {
            boolean there = house >= 0 && house < 3;
            due.is("first " + house, cot.game(house, 1, 1, 1, 1, 0), there && house != 1 ? -1 : HIDDEN);
            due.is("second " + house, cot.game(1, house, 1, 1, 1, 0), there && house != 1 ? -1 : HIDDEN);
            due.is("twice " + house, cot.game(house, house, 1, 1, 1, 0), HIDDEN);
        }
        for (int book : new int[] {LEAST, -1, 0, 1, 2, 6, MOST}) {
            due.is("BOOK " + book, cot.game(0, 1, book, 1, 1, 0), book == 0 || book == 1 ? -1 : HIDDEN);
        }
        for (int n : new int[] {LEAST, -1, 0, 1, 2, 4, 5, 9, 10, MOST}) {
            boolean ofFour = n >= 0 && n <= 4;
            boolean ofOne = n >= 0 && n <= 1;
            due.is("x " + n + " of 4", cot.game(0, 1, 1, n, 0, 0), ofFour ? -n : HIDDEN);
            due.is("y " + n + " of 4", cot.game(0, 1, 1, 0, n, 1), ofFour ? -n : HIDDEN);
            due.is("x " + n + " of 1", cot.game(0, 1, 0, n, 0, 0), ofOne ? -n : HIDDEN);
            due.is("y " + n + " of 1", cot.game(0, 1, 0, 0, n, 1), ofOne ? -n : HIDDEN);
        }
        for (int what : new int[] {LEAST, -1, 0, 1, 2, MOST}) {
            int want = what == 0 ? -3 : what == 1 ? -2 : HIDDEN;
            due.is("what " + what, cot.game(0, 1, 1, 1, 2, what), want);
        }
        due.is("of none", new MonsterCot().game(0, 1, 0, 0, 0, 0), HIDDEN);
        due.is("of a single HOUSE", Due.cot("b;h", "").game(0, 1, 0, 0, 0, 0), HIDDEN);
        due.is("nothing is done", cot.count(15), 0);
    }

    private void gainsOfGames() {
        due.part("31: what one has");
        // One page each, 2 a page: 20 is ENOUGH.
        MonsterCot cot = Due.cot("sc16e20;bp9c2;h;h", "y:c");
        due.is("18 is not", cot.game(0, 1, 0, 1, 0, 0), -1);
        due.is("18 is not, and it read less", cot.game(0, 1, 0, 1, 0, 1), -2);
        due.is("as many, not ENOUGH", Due.cot("sc16e21;bp9c2;h;h", "y:c").game(0, 1, 0, 1, 1, 1), -1);
        due.is("20 is", cot.game(0, 1, 0, 1, 1, 0), 8);
        due.is("20 is by one alone", cot.game(0, 1, 0, 0, 2, 0), 9);
        due.is("less, but it is ENOUGH", cot.game(0, 1, 0, 0, 2, 1), 7);
        due.is("nine pages", cot.game(0, 1, 0, 9, 9, 0), 0);
        due.is("none, not ENOUGH", cot.game(0, 1, 0, 0, 0, 0), 0);
        MonsterCot never = Due.cot("sc0e99;bp9;h;h", "y:0");
        due.is("nine for nothing", never.game(0, 1, 0, 9, 0, 0), -9);
        due.is("eight, and less than nine", never.game(0, 1, 0, 8, 9, 0), -10);
        due.part("31: STRENGTH does not matter, TIRED does, READ or not");
        cot = Due.cot("sc0e36;bp9;bp1k1;hs1;hs1", "y:t");
        due.is("0 to 8 are 36", cot.game(0, 1, 0, 9, 0, 0), 0);
        cot.read(0, 1, false);
        // The first is 1 TIRED: 1 to 9 are 45, 1 to 8 are 36.
        due.is("eight pages", cot.game(0, 1, 0, 8, 0, 0), 1);
        due.is("seven are 28", cot.game(0, 1, 0, 7, 0, 0), -7);
        due.is("the other one is not TIRED", cot.game(1, 0, 0, 8, 0, 0), -8);
    }

    private void boredOnceMoreByTheFirst() {
        due.part("31: BORED once more, if x is not 0");
        MonsterCot cot = Due.cot("sc0e5;bp1;h;h", "y:5-b");
        due.is("x 0: 5", cot.game(0, 1, 0, 0, 1, 1), 8);
        cot = Due.cot("sc0e9;bp1;h;h", "y:5-b");
        due.is("x 1: 5 and 4", cot.game(0, 1, 0, 1, 1, 1), 8);
        cot = Due.cot("sc0e10;bp1;h;h", "y:5-b");
        due.is("not 10", cot.game(0, 1, 0, 1, 1, 1), -1);
        // 9 at most: BORED 9, so that both pages are worth as much.
        cot = Due.cot("sc0e8l30;bp1;bp1;bp1;bp1;bp1;hs40;h", "y:b=9?4;y:0");
        for (int i = 0; i < 15; i++) {
            cot.law(NONE);
            cot.read(i % 5, 1, false);
            if (i == 4 || i == 9) {
                cot.night();
                cot.goes(0);
            }
        }
        cot.law(0);
        due.is("BORED 9", cot.bored(0), 9);
        due.is("CALM 0", cot.rule(0), 0);
        due.is("4 and 4", cot.game(0, 1, 0, 1, 1, 0), 8);
    }

    private void restsOfThoseThere() {
        due.part("32: no such one, no such HOUSES, BOOK, alike");
        MonsterCot cot = Due.cot("sc0e99;bp1;bp4;h;h;h", "y:0");
        // Never ENOUGH: 0 0, 1 1 and, of four pages, 2 2.
        int[] is = {LEAST, -2, -1, 0, 1, 2, 3, MOST};
        int[] want = {NONE, NONE, 3, 0, 11, 22, NONE, NONE};
        for (int i = 0; i < is.length; i++) {
            due.is("rests(0, 1, 1, " + is[i] + ")", cot.rests(0, 1, 1, is[i]), want[i]);
        }
        for (int house : new int[] {LEAST, -1, 0, 1, 2, 3, 6, MOST}) {
            boolean there = house >= 0 && house < 3 && house != 1;
            due.is("first " + house, cot.rests(house, 1, 1, NONE), there ? 3 : NONE);
            due.is("second " + house, cot.rests(1, house, 1, NONE), there ? 3 : NONE);
        }
        for (int book : new int[] {LEAST, -1, 0, 1, 2, 6, MOST}) {
            due.is("BOOK " + book, cot.rests(0, 1, book, NONE), book == 0 ? 2 : book == 1 ? 3 : NONE);
        }
        due.is("of none", new MonsterCot().rests(0, 1, 0, NONE), NONE);
        MonsterCot calm = Due.cot("sc99e1;bp9;h;h", "y:0");
        due.is("ENOUGH as it is: a single one", calm.rests(0, 1, 0, NONE), 1);
        due.is("nobody reads", calm.rests(0, 1, 0, 0), 0);
        // Nine pages together are ENOUGH: by each share of them; or nobody reads (alone one would have 0, too).
        MonsterCot nine = Due.cot("sc0e9;bp9;h;h", "y:1");
        due.is("eleven of them", nine.rests(0, 1, 0, NONE), 11);
        for (int i = 0; i < 11; i++) {
            due.is("rest " + i, nine.rests(0, 1, 0, i), 9 * i);
        }
        due.is("none behind it", nine.rests(0, 1, 0, 11), NONE);
        // The first one's pages are worth nothing: the other one reads all five or nobody.
        MonsterCot other = Due.cot("sc0e5;bp9;hv0;hv1", "y:v");
        due.is("by the other one alone", other.rests(0, 1, 0, NONE), 1);
        due.is("5 of his", other.rests(0, 1, 0, 0), 5);
        due.is("the other way", other.rests(1, 0, 0, 0), 50);
    }

    // ---- the others

    private void oddsOfMeasles() {
        due.part("33: odds");
        MonsterCot cot = Due.cot("b;hn0;hn1;hn2;hn9", "");
        int[] chances = {LEAST, -1, 0, 1, 33, 50, 99, 100, 101, MOST};
        int[] none = {NONE, NONE, 1000000, 1000000, 1000000, 1000000, 1000000, 1000000, NONE, NONE};
        int[] one = {NONE, NONE, 1000000, 990000, 670000, 500000, 10000, 0, NONE, NONE};
        int[] two = {NONE, NONE, 1000000, 980100, 448900, 250000, 100, 0, NONE, NONE};
        // Of 9 CHILDREN: what is cut is left, so that by 99 of 100 one part stays.
        int[] nine = {NONE, NONE, 1000000, 913522, 27209, 1954, 1, 0, NONE, NONE};
        for (int i = 0; i < chances.length; i++) {
            due.is("no CHILD by " + chances[i], cot.odds(0, chances[i]), none[i]);
            due.is("one CHILD by " + chances[i], cot.odds(1, chances[i]), one[i]);
            due.is("two CHILDREN by " + chances[i], cot.odds(2, chances[i]), two[i]);
            due.is("nine CHILDREN by " + chances[i], cot.odds(3, chances[i]), nine[i]);
        }
        for (int house : new int[] {LEAST, -1, 4, 6, MOST}) {
            due.is("HOUSE " + house, cot.odds(house, 0), NONE);
        }
        due.is("of none", new MonsterCot().odds(0, 0), NONE);
    }

    private void lastsNoughtToTwenty() {
        due.part("34: LASTS 0 .. 20");
        // 99, 94, 89 .. 9, 4, 0.
        int[] enough = {99, 95, 94, 90, 10, 9, 5, 4, 1};
        int[] want = {1, 1, 2, 2, 18, 19, 19, 20, 20};
        for (int i = 0; i < enough.length; i++) {
            MonsterCot cot = Due.cot("b;h;sc99l5e" + enough[i], "y:0");
            due.is("ENOUGH " + enough[i], cot.lasts(0), want[i]);
        }
        due.is("not ENOUGH at first", Due.cot("sc24;b;h", "y:0").lasts(0), 0);
        due.is("not ENOUGH behind the reading", Due.cot("sc25;bp1;h", "y:0-1").lasts(0), 0);
        due.is("ENOUGH behind the reading", Due.cot("sc24l8;bp1;h", "y:1").lasts(0), 1);
        due.is("20: it goes on", Due.cot("sc99l0;b;h", "y:0").lasts(0), 20);
        MonsterCot cot = Due.cot("b;b;h", "");
        for (int book : new int[] {LEAST, -1, 2, 6, MOST}) {
            due.is("lasts(" + book + ")", cot.lasts(book), NONE);
        }
        due.is("of none", new MonsterCot().lasts(0), NONE);
    }

    private void lastsInThatHouse() {
        due.part("34: by the FATHER where it is, NIGHT by NIGHT");
        MonsterCot cot = Due.cot("sc20e20l0;bp1;hv0;hv1;hv0", "y:v*5-5");
        due.is("HOUSE 0: 5 less", cot.lasts(0), 0);
        cot.goes(1);
        due.is("HOUSE 1 on and on", cot.lasts(0), 20);
        due.part("34: BORED goes on");
        due.is("0 stays 0", Due.cot("sc20e20l0;bp1;h", "y:0-b").lasts(0), 20);
        // 3 BORED: one more by the reading, one less by the NIGHT.
        cot = Due.cot("sc60e10l0;bp1k3;bp1k3;bp1k3;h", "y:0-b");
        cot.read(0, 1, false);
        cot.read(1, 1, false);
        cot.read(2, 1, false);
        due.is("57, 54 .. 12, 9", cot.lasts(0), 15);
        // 9 at most: 9 and one more is 9, then 8 each NIGHT.
        cot = Due.cot("sc99e10l0;bp1;bp1;bp1;bp1;bp1;hs40", "y:0");
        for (int i = 0; i < 15; i++) {
            cot.read(i % 5, 1, false);
            if (i == 4 || i == 9) {
                cot.night();
            }
        }
        Due.keep(cot, 1, "y:0-b");
        cot.law(1);
        due.is("BORED 9", cot.bored(0), 9);
        due.is("90, 82, 74 .. 10, 2", cot.lasts(0), 11);
        due.part("34: TIRED 0 at each page, STRENGTH and READ or not");
        cot = Due.cot("sc20e20l0;bp9;hs1", "y:0-t");
        due.is("nothing lost", cot.lasts(0), 20);
        cot.read(0, 1, false);
        due.is("READ and TIRED", cot.lasts(0), 20);
        due.part("34: CALM as now");
        due.is("milk", Due.cot("sc24e25;bp1;h", "y:0").lasts(0), 0);
        cot = Due.cot("sc24e25;bp1;h", "y:0");
        cot.milk();
        due.is("27, then 19", cot.lasts(0), 1);
    }

    private void quietIs(String rules, int want) {
        due.is(rules, Due.cot(rules + ";b;h", "").quiet(), want);
    }

    private void quietNoughtToSixty() {
        due.part("35: QUIET 0 .. 60");
        quietIs("sc0", 0);
        quietIs("sc1e1l0", NONE);
        quietIs("sc1e1l1", 1);
        quietIs("sc59e1l1", 59);
        quietIs("sc60e1l1", 60);
        quietIs("sc61e1l1", NONE);
        quietIs("sc99e99l1", 34);
        quietIs("sc10e99l8", 1);
        quietIs("sc11e99l8", 2);
        quietIs("sc1e99l0", 1);
        quietIs("sc2e99l0", 1);
        quietIs("sc3e99l0", 2);
        quietIs("sc99e1l2", 50);
        due.is("of none", new MonsterCot().quiet(), NONE);
        MonsterCot cot = Due.cot("sc60e1l1;b;h", "");
        cot.milk();
        due.is("63", cot.quiet(), NONE);
        due.is("nothing is done", cot.count(6), 0);
    }

    private void whatOfAll() {
        due.part("36: all");
        MonsterCot cot = Due.cot("sc24;b;h", "");
        int[] want = {0, 0, 0, 0, 0, 0, 15, 1};
        for (int what : new int[] {LEAST, -2, -1, 0, 1, 2, 3, 4, 5, 6, 7, 8, 9, MOST}) {
            boolean there = what >= 0 && what < 8;
            due.is("all(" + what + ")", cot.all(what), there ? want[what] : NONE);
            due.is("all(" + what + ") of none", new MonsterCot().all(what), NONE);
        }
        due.is("ASLEEP, 25", Due.cot("sc25;b;h", "").all(1), 1);
        due.is("ASLEEP, 26", Due.cot("sc26;b;h", "").all(1), 1);
    }

    private void lowestOfSeveral() {
        due.part("36: of several the lowest");
        MonsterCot cot = Due.cot("bp8;bp9;bp9;hn1s8v1;hn2s9v2;hn2s9v2;hn1s8v1", "");
        due.is("FAIR", cot.all(0), 0);
        due.is("STRONGEST", cot.all(2), 1);
        due.is("LOUDEST", cot.all(3), 1);
        due.is("MANY", cot.all(4), 1);
        due.is("LONG", cot.all(5), 1);
        cot.goes(1);
        cot.read(0, 1, false);
        due.is("STRONGEST, one TIRED", cot.all(2), 2);
        cot.night();
        due.is("FAIR: 1 had a turn", cot.all(0), 0);
        cot.goes(0);
        cot.night();
        due.is("FAIR: 0 and 1 had", cot.all(0), 2);
        cot = Due.cot("bp1;bp1;hn0s1v0;hn0s1v0", "");
        for (int what : new int[] {0, 2, 3, 4, 5}) {
            due.is("all alike, all(" + what + ")", cot.all(what), 0);
        }
        due.part("36: the last one");
        cot = Due.cot("bp1;bp1;bp1;bp1;bp1;bp2;hn0s1v0;h;h;h;h;hn9s40v9", "");
        for (int what = 2; what < 6; what++) {
            due.is("all(" + what + ")", cot.all(what), 5);
        }
        for (int night = 0; night < 5; night++) {
            due.is("FAIR", cot.all(0), night);
            cot.night();
        }
        due.is("FAIR, the last one", cot.all(0), 5);
        cot.night();
        due.is("FAIR, the first again", cot.all(0), 0);
        due.part("36: by STRENGTH less TIRED");
        cot = Due.cot("bp9;hs9;hs8;hs1", "");
        cot.read(0, 1, false);
        due.is("8 and 8", cot.all(2), 0);
        cot = Due.cot("bp9;hs9;hs8;hs1", "");
        cot.read(0, 2, false);
        due.is("7 and 8", cot.all(2), 1);
    }

    private void freshAndOpen() {
        due.part("36: FRESH");
        MonsterCot cot = Due.cot("sc50;bp4k0;bp5k3;bp1k3;hs10", "");
        due.is("none BORED", cot.all(6), 15);
        due.is("OPEN, all", cot.all(7), 7);
        cot.read(1, 1, false);
        due.is("BORED by 3", cot.all(6), 7);
        due.part("36: OPEN");
        due.is("READ", cot.all(7), 5);
        cot.read(0, 1, false);
        due.is("BORED by 0, too", cot.all(6), 6);
        due.is("READ, too", cot.all(7), 4);
        cot.night();
        due.is("fresh again", cot.all(6), 15);
        cot = Due.cot("bp4;bp5;bp1k3;bp5k1;hs10", "");
        cot.read(3, 5, false);
        due.is("five left", cot.all(7), 7);
        cot = Due.cot("bp4;bp5;bp1k3;bp6k1;hs10", "");
        cot.read(3, 6, false);
        due.is("four left", cot.all(7), 5);
        cot = Due.cot("bp4;bp5;bp2k3;bp9k1;hs10", "");
        cot.read(3, 9, false);
        due.is("one left", cot.all(7), 0);
        cot = Due.cot("bk0;bk1;bk2;bk3;b;b;hs40", "");
        due.is("six of them", cot.all(7), 63);
        for (int book = 0; book < 4; book++) {
            cot.read(book, 1, false);
            due.is("one less", cot.all(6), 15 >> book + 1 << book + 1);
        }
    }

    private void pagesOfKinds() {
        due.part("37: pages");
        MonsterCot cot = Due.cot("bp9k3;bp9k3;bp9k3;bp9k3;bp9k3;bp9k3;h", "");
        int[] kinds = {LEAST, -1, 0, 1, 2, 3, 4, MOST};
        int[] want = {NONE, NONE, 0, 0, 0, 54, NONE, NONE};
        for (int i = 0; i < kinds.length; i++) {
            due.is("pages(" + kinds[i] + ")", cot.pages(kinds[i]), want[i]);
            due.is("pages(" + kinds[i] + ") of none", new MonsterCot().pages(kinds[i]), NONE);
        }
        cot = Due.cot("bp1k0;bp2k1;bp3k2;bp4k3;bp5k0;bp6k1;h", "");
        int[] mixed = {6, 8, 3, 4};
        for (int kind = 0; kind < 4; kind++) {
            due.is("pages(" + kind + ") of mixed ones", cot.pages(kind), mixed[kind]);
        }
        cot.read(0, 1, false);
        due.is("READ or not", cot.pages(0), 6);
    }

    private void leftOfHouses() {
        due.part("38: left");
        MonsterCot cot = Due.cot("bp9;hs9;hs40;hs1", "");
        for (int house : new int[] {LEAST, -1, 3, 6, MOST}) {
            due.is("left(" + house + ")", cot.left(house), NONE);
        }
        due.is("left(0)", cot.left(0), 9);
        due.is("left(1)", cot.left(1), 40);
        due.is("left(2)", cot.left(2), 1);
        cot.read(0, 9, false);
        due.is("none left", cot.left(0), 0);
        cot.night();
        due.is("six again", cot.left(0), 6);
        due.is("of none", new MonsterCot().left(0), NONE);
    }
}

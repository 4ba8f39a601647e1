/** Each promise of the document by ordinary inputs, the edges that it names, and wrong inputs. */
final class PromisesTest {
    private static final int NONE = Due.NONE;
    private static final int HIDDEN = Due.HIDDEN;
    private static final int THROWN = Due.THROWN;
    /** Two HOUSES, three BOOKS, two of them of KIND 0. */
    private static final String TWO = "sc10e20l5;bp4c3k0;bp2c6k1;bp3c1k0;hn2s6v6;hn3s10v0";

    private final Due due = new Due();

    public static void main(String[] args) {
        PromisesTest test = new PromisesTest();
        test.newObject();
        test.feeding();
        test.ending();
        test.landingFaults();
        test.lawFaults();
        test.weekFaults();
        test.texts();
        test.looking();
        test.lawsAndHush();
        test.worths();
        test.reading();
        test.milkGoingVoice();
        test.nights();
        test.years();
        test.undoing();
        test.logging();
        test.weeks();
        test.calming();
        test.leastRows();
        test.bestBooks();
        test.rosters();
        test.likings();
        test.whichSets();
        test.whichFarTooTired();
        test.games();
        test.odds();
        test.lasting();
        test.quieting();
        test.allOfThem();
        test.images();
        test.counts();
        test.due.end();
    }

    private void faultIs(MonsterCot cot, int sort, String text, int want) {
        due.is("fault(" + sort + ") of '" + text + "'", Due.faultOf(cot, sort, text), want);
    }

    private void newObject() {
        due.part("1 a new object");
        MonsterCot cot = new MonsterCot();
        for (int what = 0; what < 16; what++) {
            due.is("count(" + what + ")", cot.count(what), what == 5 ? NONE : 0);
        }
        due.is("rule(1)", cot.rule(1), NONE);
        due.is("back()", cot.back(), NONE);
        due.is("all(1)", cot.all(1), NONE);
        due.is("pages(0)", cot.pages(0), NONE);
        due.is("run(0, 1)", cot.run(0, 1), HIDDEN);
        due.is("likes(NONE)", cot.likes(NONE), NONE);
        due.is("which(0, NONE)", cot.which(0, NONE), NONE);
    }

    private void feeding() {
        due.part("2 feed");
        MonsterCot cot = new MonsterCot();
        due.is("feed of 0", cot.feed(0, 0, 0, 0, 0), 0);
        due.is("feed of 4 bytes", cot.feed(0x62000000, 0x00003B00, 0, 0x20, 0x680000), 4);
        due.is("fault(0) of 'b; h'", cot.fault(0), NONE);
        for (int i = 0; i < 11; i++) {
            cot.feed(-1, -1, -1, -1, -1);
        }
        due.is("count(4)", cot.count(4), 224);
        due.is("feed of 17", cot.feed(-1, -1, -1, -1, 1), NONE);
        due.is("count(4) behind a refused one", cot.count(4), 224);
        due.is("feed of 16", cot.feed(-1, -1, -1, -1, 0), 240);
        due.is("feed of 1 too many", cot.feed(0, 0, 1, 0, 0), NONE);
        due.is("feed of 0 to a full one", cot.feed(0, 0, 0, 0, 0), 240);
        due.is("fault of byte 255", cot.fault(0), 4);
    }

    private void ending() {
        due.part("3 end");
        MonsterCot cot = new MonsterCot();
        due.is("end(0)", cot.end(0), true);
        due.is("end(1) of none", cot.end(1), false);
        Due.type(cot, "b;hx");
        due.is("end(5)", cot.end(5), false);
        due.is("end(-1)", cot.end(-1), false);
        due.is("end(4)", cot.end(4), true);
        due.is("fault(0)", cot.fault(0), 3);
        due.is("end(3)", cot.end(3), true);
        due.is("end(4) again", cot.end(4), false);
        due.is("fault(0) behind it", cot.fault(0), NONE);
        due.is("count(4)", cot.count(4), 3);
    }

    private void landingFaults() {
        due.part("4 fault of a LANDING");
        MonsterCot cot = new MonsterCot();
        faultIs(cot, 0, "h;b", NONE);
        faultIs(cot, 0, "sc99e99l30;bp9c9k3;hn9s40v9", NONE);
        faultIs(cot, 0, "sc0e1l0;bp1c0k0;hn0s1v0", NONE);
        faultIs(cot, 0, "bp01k03;hs09", NONE);
        faultIs(cot, 0, "hv9n1s2;bk1c2p3;se1", NONE);
        faultIs(cot, 0, "bp00;h", 3);
        faultIs(cot, 0, "bp10;h", 3);
        faultIs(cot, 0, "bp100;h", 4);
        faultIs(cot, 0, "bp999;h", 4);
        faultIs(cot, 0, "bp1 0;h", 4);
        faultIs(cot, 0, "bp001;h", 4);
        faultIs(cot, 0, "bp1;h;sl31", 9);
        faultIs(cot, 0, "bc10;h", 3);
        faultIs(cot, 0, "bk4;h", 2);
        faultIs(cot, 0, "b;hn10", 5);
        faultIs(cot, 0, "b;hv10", 5);
        faultIs(cot, 0, "b;h;se0", 6);
        faultIs(cot, 0, "b;h;se00", 7);
        faultIs(cot, 0, "b;h;sc000", 8);
        faultIs(cot, 0, "bp;h", 2);
        faultIs(cot, 0, "bp", 2);
        faultIs(cot, 0, "bp ", 3);
        faultIs(cot, 0, "b1", 1);
        faultIs(cot, 0, "b p 1 p 2", 6);
        faultIs(cot, 0, "bp1c1k1p2", 7);
        faultIs(cot, 0, "s;b;h;s", 6);
        faultIs(cot, 0, "b;b;b;b;b;b;h;b", 14);
        faultIs(cot, 0, "h;b;h;h;h;h;h;h", 14);
        faultIs(cot, 0, "b;b;b;b;b;b;s;h;h;h;h;h;h", NONE);
        faultIs(cot, 0, "b; ;h", 3);
        faultIs(cot, 0, ";b;h", 0);
        faultIs(cot, 0, "bh", 1);
        faultIs(cot, 0, "B;h", 0);
        faultIs(cot, 0, "s;h", 3);
        faultIs(cot, 0, "s;h ", 4);
        faultIs(cot, 0, "hs41;b", 3);
        faultIs(cot, 0, "sl30l3", 4);
        due.is("fault(-1)", cot.fault(-1), -2);
        due.is("fault(3)", cot.fault(3), -2);
    }

    private void lawFaults() {
        due.part("4 fault of a LAW");
        MonsterCot cot = new MonsterCot();
        for (String right : new String[] {"y:0", "y:c+v-b*p/n+t", "y:c=1?2", "y:c<[1+2]*3&!p>1|(n=1)?[[9]]",
            "y:(c=1&(p=2|n=3))?1;y:2;y:3", " y : 1234 ; y : c = 9999 ? t ", "y:!!!!!!c=1?1", "y:[[[[[[1]]]]]]",
            "y:!(!(!(1=1)))?1", "y:c=1&v=2|!b=3?4+[5]"}) {
            faultIs(cot, 1, right, NONE);
        }
        faultIs(cot, 1, "y:([(", 4);
        faultIs(cot, 1, "y:!(!(!(1=1)))?1&!", 16);
        faultIs(cot, 1, "y:!(!(!([1]=1)))?1", 8);
        faultIs(cot, 1, "", 0);
        faultIs(cot, 1, "c", 0);
        faultIs(cot, 1, "y1", 1);
        faultIs(cot, 1, "y:", 2);
        faultIs(cot, 1, "y:1;", 4);
        faultIs(cot, 1, "y:1 2", 4);
        faultIs(cot, 1, "y:12345", 6);
        faultIs(cot, 1, "y:00000", 6);
        faultIs(cot, 1, "y:c?1", 3);
        faultIs(cot, 1, "y:c=1;", 5);
        faultIs(cot, 1, "y:c=1", 5);
        faultIs(cot, 1, "y:c=1=1", 5);
        faultIs(cot, 1, "y:c=1?", 6);
        faultIs(cot, 1, "y:c=1?!c=1", 6);
        faultIs(cot, 1, "y:c=1?(c)", 6);
        faultIs(cot, 1, "y:c=1?c=1", 7);
        faultIs(cot, 1, "y:(c)=1?1", 4);
        faultIs(cot, 1, "y:(c=1)+1", 7);
        faultIs(cot, 1, "y:(c=1)", 7);
        faultIs(cot, 1, "y:c=1)?1", 5);
        faultIs(cot, 1, "y:(c=1?1", 6);
        faultIs(cot, 1, "y:[c=1]", 4);
        faultIs(cot, 1, "y:[c)", 4);
        faultIs(cot, 1, "y:-1", 2);
        faultIs(cot, 1, "y:1+-1", 4);
        faultIs(cot, 1, "y:c v", 4);
        faultIs(cot, 1, "y:!!!!!!!c=1?1", 8);
        faultIs(cot, 1, "y:[[[[[[[1]]]]]]]", 8);
        faultIs(cot, 1, "y:((((((([1]=1", 8);
        faultIs(cot, 1, "y:(((![[[1]]]=1)))?1", 8);
        faultIs(cot, 1, "y:!!!!!!c=1&!!!!!!c=2?[[[[[[1]]]]]]", NONE);
        faultIs(cot, 1, "y:!!!!!![c]=1?1", 8);
        faultIs(cot, 1, "y:1;y:(c=1&)?1", 11);
        faultIs(cot, 1, "y:e", 2);
        faultIs(cot, 1, "y:c=1|?1", 6);
        faultIs(cot, 1, "y:c=1&?1", 6);
        faultIs(cot, 1, "y:c=1&|v=1?1", 6);
        faultIs(cot, 1, "y:c+;y:1", 4);
        faultIs(cot, 1, "y:c+=1?1", 4);
        faultIs(cot, 1, "y:c*;y:1", 4);
        faultIs(cot, 1, "y:c=?1", 4);
        faultIs(cot, 1, "y:!?1", 3);
        faultIs(cot, 1, "y:()?1", 3);
        faultIs(cot, 1, "y:[]+1", 3);
        faultIs(cot, 1, "y:((c=1)?1", 8);
        faultIs(cot, 1, "y:[[c]+1", 8);
        faultIs(cot, 1, "y:c=1?;y:1", 6);
        faultIs(cot, 1, ";y:1", 0);
    }

    private void weekFaults() {
        due.part("4 fault of a WEEK");
        MonsterCot cot = new MonsterCot();
        faultIs(cot, 2, "r99;k00;m;n;g9", NONE);
        faultIs(cot, 2, " r 1 2 ; g 3 ", NONE);
        faultIs(cot, 2, "", 0);
        faultIs(cot, 2, "  ", 2);
        faultIs(cot, 2, "r123", 3);
        faultIs(cot, 2, "r1;", 2);
        faultIs(cot, 2, "g", 1);
        faultIs(cot, 2, "g12", 2);
        faultIs(cot, 2, "n;;n", 2);
        faultIs(cot, 2, "n n", 2);
        faultIs(cot, 2, "n;n;n;n;n;n;n;n;n;n;n;n;n;n;n;n", NONE);
        faultIs(cot, 2, "n;n;n;n;n;n;n;n;n;n;n;n;n;n;n;n;", 31);
        faultIs(cot, 2, "n;n;n;n;n;n;n;n;n;n;n;n;n;n;n;n ;n", 32);
    }

    private void texts() {
        due.part("5 text");
        MonsterCot cot = new MonsterCot();
        due.is("text(0) of a fault", Due.keep(cot, 0, "b;"), NONE);
        due.is("the TAPE is kept", cot.count(4), 2);
        due.is("text(-1)", cot.text(-1), NONE);
        due.is("text(3)", cot.text(3), NONE);
        Due.type(cot, "m");
        due.is("text(3) of a right WEEK", cot.text(3), NONE);
        due.is("text(-1) of a right WEEK", cot.text(-1), NONE);
        due.is("text(0) of a right WEEK", cot.text(0), NONE);
        due.is("no WEEK yet", cot.count(3), 0);
        due.is("text(0)", Due.keep(cot, 0, "b;h;h;h"), 3);
        due.is("the TAPE is empty", cot.count(4), 0);
        for (int i = 0; i < 4; i++) {
            due.is("a LAW", Due.keep(cot, 1, "y:" + i), i);
            due.is("a WEEK", Due.keep(cot, 2, "m;g" + i), i);
        }
        due.is("a fifth LAW", Due.keep(cot, 1, "y:9"), NONE);
        due.is("its TAPE is kept", cot.count(4), 3);
        due.is("a fifth WEEK", Due.keep(cot, 2, "m"), NONE);
        due.is("count(2)", cot.count(2), 4);
        due.is("count(3)", cot.count(3), 4);
        cot.law(2);
        cot.hush(4);
        cot.read(0, 4, false);
        cot.voice(1, 9);
        cot.goes(2);
        cot.milk();
        cot.seen(0, 1, 0, 0, true);
        cot.night();
        cot.image();
        due.is("another LANDING", Due.keep(cot, 0, "sc7;h;b;bk2"), 1);
        int[] counts = {1, 2, 4, 4, 0, 2, 0, 0, 0, 0, 0, 0, 4, 0, 0, 0};
        for (int what = 0; what < counts.length; what++) {
            due.is("count(" + what + ") of it", cot.count(what), counts[what]);
        }
        due.is("rule(0)", cot.rule(0), 7);
        due.is("house(0, 3)", Due.houseOf(cot, 0, 3), 0);
        due.is("house(0, 4)", Due.houseOf(cot, 0, 4), 0);
        due.is("tome(0, 3)", cot.tome(0, 3), 0);
        due.is("bored(0)", cot.bored(0), 0);
        due.is("undo()", cot.undo(), NONE);
        due.is("back()", cot.back(), NONE);
        due.is("log(0, 0)", cot.log(0, 0), NONE);
        due.is("likes(NONE)", cot.likes(NONE), 5);
    }

    private void looking() {
        MonsterCot cot = Due.cot("hv2s9;b;bk3p9c0;se30l0c99;h", "");
        due.part("6 rule");
        due.is("rule(0)", cot.rule(0), 99);
        due.is("rule(1)", cot.rule(1), 30);
        due.is("rule(2)", cot.rule(2), 0);
        due.is("rule(3)", cot.rule(3), NONE);
        due.is("rule(-1)", cot.rule(-1), NONE);
        due.part("7 tome");
        int[][] tomes = {{4, 3, 0, 0, NONE}, {9, 0, 3, 0, NONE}, {NONE, NONE, NONE, NONE, NONE}};
        for (int book = 0; book < 3; book++) {
            for (int what = 0; what < 5; what++) {
                due.is("tome(" + book + ", " + what + ")", cot.tome(book, what), tomes[book][what]);
            }
        }
        due.is("tome(-1, 0)", cot.tome(-1, 0), NONE);
        due.is("tome(0, -1)", cot.tome(0, -1), NONE);
        due.part("8 house");
        int[][] houses = {{2, 9, 2, 0, 0, THROWN}, {2, 15, 5, 0, 0, THROWN}};
        for (int house = 0; house < 2; house++) {
            for (int what = 0; what < 6; what++) {
                due.is("house(" + house + ", " + what + ")", Due.houseOf(cot, house, what), houses[house][what]);
            }
        }
        due.is("house(2, 0)", Due.houseOf(cot, 2, 0), THROWN);
        due.is("house(-1, 0)", Due.houseOf(cot, -1, 0), THROWN);
        due.is("house(0, -1)", Due.houseOf(cot, 0, -1), THROWN);
        due.part("9 bored");
        cot.read(1, 1, false);
        due.is("bored(3)", cot.bored(3), 1);
        due.is("bored(0)", cot.bored(0), 0);
        due.is("bored(4)", cot.bored(4), NONE);
        due.is("bored(-1)", cot.bored(-1), NONE);
        due.part("38 left");
        due.is("left(0)", cot.left(0), 8);
        due.is("left(1)", cot.left(1), 15);
        due.is("left(2)", cot.left(2), NONE);
        due.is("left(-1)", cot.left(-1), NONE);
        due.part("37 pages");
        due.is("pages(0)", cot.pages(0), 4);
        due.is("pages(1)", cot.pages(1), 0);
        due.is("pages(3)", cot.pages(3), 9);
        due.is("pages(4)", cot.pages(4), NONE);
        due.is("pages(-1)", cot.pages(-1), NONE);
    }

    private void lawsAndHush() {
        due.part("10 law");
        MonsterCot cot = new MonsterCot();
        due.is("law(0) of none", cot.law(0), false);
        due.is("law(NONE)", cot.law(NONE), true);
        Due.keep(cot, 1, "y:7");
        due.is("count(5)", cot.count(5), NONE);
        due.is("law(0)", cot.law(0), true);
        due.is("law(0) again", cot.law(0), true);
        due.is("law(1)", cot.law(1), false);
        due.is("law(-2)", cot.law(-2), false);
        due.is("count(5) behind it", cot.count(5), 0);
        Due.keep(cot, 0, "b;h");
        due.is("calms(0, 1)", cot.calms(0, 1), 17);
        due.is("law(NONE) again", cot.law(NONE), true);
        due.is("calms(0, 1) without", cot.calms(0, 1), 14);
        due.is("no ACT", cot.count(15), 0);
        due.part("11 hush");
        due.is("hush(0)", cot.hush(0), false);
        due.is("hush(10)", cot.hush(10), false);
        due.is("hush(-1)", cot.hush(-1), false);
        due.is("hush(9)", cot.hush(9), true);
        due.is("hush(9) again", cot.hush(9), false);
        due.is("count(12)", cot.count(12), 9);
        due.is("hush(0) again", cot.hush(0), true);
    }

    /** What the first page of BOOK 0 adds by a LAW, of a CALM of 50. */
    private void worthIs(String law, int want) {
        MonsterCot cot = Due.cot("sc50;bp9c7k2;hv8", law);
        due.is("a page by " + law, cot.calms(0, 1) - 50, want);
    }

    private void worths() {
        due.part("WORTH");
        worthIs("", 9);
        worthIs("y:c", 7);
        worthIs("y:v", 8);
        worthIs("y:b+p+n+t", 0);
        worthIs("y:1+2*3-4", 3);
        worthIs("y:[1+2]*3-4", 5);
        worthIs("y:9-2-3", 4);
        worthIs("y:20/3/2", 3);
        worthIs("y:[0-7]/2", -3);
        worthIs("y:7/[0-2]", -3);
        worthIs("y:5/0", 0);
        worthIs("y:5/[c-c]+1", 1);
        worthIs("y:0-100", -9);
        worthIs("y:100", 20);
        worthIs("y:9999*9999-9999*9999+5", 5);
        // 1,000,000 at the most behind each sign: 1,000,000 - 999,999 by 9,999 * 101 and 9,999 * 100 + 99.
        worthIs("y:9999*9999-[9999*100+99]", 1);
        worthIs("y:0-9999*9999+[9999*100+98]", -2);
        worthIs("y:9999*9999*2/9999/100", 1);
        worthIs("y:c=7?1;y:2", 1);
        worthIs("y:c=8?1;y:2", 2);
        worthIs("y:c=8?1", 0);
        worthIs("y:c=8?1;y:c>8?2;y:c<8?3;y:4", 3);
        worthIs("y:c>7?1;y:2", 2);
        worthIs("y:c<7?1;y:2", 2);
        worthIs("y:0=c-7?0;y:2", 0);
        worthIs("y:4;y:c=7?1", 4);
        worthIs("y:!c=8?1;y:2", 1);
        worthIs("y:!!c=8?1;y:2", 2);
        worthIs("y:c=7|v=8&c=8?1;y:2", 1);
        worthIs("y:(c=7|v=8)&c=8?1;y:2", 2);
        worthIs("y:!c=7|v=8?1;y:2", 1);
        worthIs("y:!(c=7|v=8)?1;y:2", 2);
        worthIs("y:!c=7&v=8?1;y:2", 2);
        worthIs("y:c+1=v?1;y:2", 1);
        worthIs("y:[c+1]*2=v*2?1;y:2", 1);
        MonsterCot cot = Due.cot("sc0l0e1;bp9c0k2;bp9c0k2;hv0;hv3", "y:n*6+p");
        due.is("p by pages", cot.calms(0, 4), 6);
        cot.read(0, 1, false);
        cot.night();
        due.is("n by NIGHTS", cot.calms(0, 2), 13);
        Due.keep(cot, 1, "y:b*5+t");
        cot.law(1);
        due.is("b and t at 0", cot.calms(0, 3), 3);
        cot.read(1, 2, false);
        due.is("rule(0)", cot.rule(0), 1);
        due.is("b 1 and t from 2 on", cot.calms(0, 3), 1 + 7 + 8 + 9);
        due.is("READ again", cot.calms(1, 1), 8);
    }

    private void reading() {
        due.part("12 read");
        MonsterCot cot = Due.cot(TWO, "");
        due.is("read(3, 1)", cot.read(3, 1, false), NONE);
        due.is("read(-1, 1)", cot.read(-1, 1, false), NONE);
        due.is("read(0, 0)", cot.read(0, 0, false), NONE);
        due.is("read(0, 5)", cot.read(0, 5, false), NONE);
        due.is("read(0, 1, skip)", cot.read(0, 1, true), NONE);
        due.is("nothing changed", cot.count(15), 0);
        due.is("read(0, 4, skip)", cot.read(0, 4, true), 20);
        due.is("house(0, 3)", Due.houseOf(cot, 0, 3), 3);
        due.is("bored(0)", cot.bored(0), 1);
        due.is("tome(0, 3)", cot.tome(0, 3), 1);
        due.is("read(0, 1) again", cot.read(0, 1, false), NONE);
        due.is("read(2, 3), one more BORED", cot.read(2, 3, false), 26);
        due.is("bored(0) behind it", cot.bored(0), 2);
        due.is("left(0)", cot.left(0), 0);
        due.is("read(1, 1), too TIRED", cot.read(1, 1, false), NONE);
        due.is("read(1, 2, skip), too TIRED", cot.read(1, 2, true), NONE);
        due.is("count(15)", cot.count(15), 2);
        cot = Due.cot("sc97;bp9c9;bp9c0;hs5;hs40", "");
        due.is("too TIRED from the first on", cot.read(0, 6, false), NONE);
        due.is("99 at the most", cot.read(0, 5, false), 99);
        cot = Due.cot("sc3;bp9c0;bp2c0;hs8v0", "");
        due.is("SKIPPED, STRENGTH for the others", cot.read(0, 9, true), 0);
        due.is("0 at the least", cot.rule(0), 0);
        due.is("STRENGTH is gone", cot.left(0), 0);
        cot = Due.cot("sc50l0;bp1c0k1;hs40v0;h", "");
        for (int i = 0; i < 12; i++) {
            cot.read(0, 1, false);
            due.is("BORED goes up and down", cot.bored(1), 1);
            cot.night();
        }
        cot = Due.cot("sc50l0;bp1c0;bp1c0;bp1c0;bp1c0;bp1c0;bp1c0;hs40v0", "");
        for (int i = 0; i < 12; i++) {
            cot.read(i % 6, 1, false);
            if (i == 5) {
                due.is("six times BORED", cot.bored(0), 6);
                due.is("50 less 0 to 5", cot.rule(0), 35);
                cot.night();
            }
        }
        due.is("9 at the most", cot.bored(0), 9);
        due.is("rule(0)", cot.rule(0), 0);
    }

    private void milkGoingVoice() {
        due.part("13 milk");
        MonsterCot cot = Due.cot("sc97l0e1;b;h;h;h", "");
        due.is("milk()", cot.milk(), 99);
        due.is("milk() again", cot.milk(), NONE);
        due.is("count(10)", cot.count(10), 1);
        cot.night();
        due.is("count(10) behind a NIGHT", cot.count(10), 0);
        due.is("milk() then", cot.milk(), 99);
        due.part("14 goes");
        due.is("goes(1), it is there", cot.goes(1), NONE);
        due.is("goes(3)", cot.goes(3), NONE);
        due.is("goes(-1)", cot.goes(-1), NONE);
        due.is("goes(0)", cot.goes(0), 0);
        due.is("count(7)", cot.count(7), 0);
        due.is("count(11)", cot.count(11), 1);
        due.is("goes(2), it went", cot.goes(2), NONE);
        cot.night();
        due.is("count(11) behind a NIGHT", cot.count(11), 0);
        due.is("it is in the next one", cot.count(7), 1);
        due.is("goes(2)", cot.goes(2), 2);
        cot.night();
        due.is("behind the last one 0", cot.count(7), 0);
        due.part("15 voice");
        due.is("voice(0, 5), it is so", cot.voice(0, 5), NONE);
        due.is("voice(0, 10)", cot.voice(0, 10), NONE);
        due.is("voice(0, -1)", cot.voice(0, -1), NONE);
        due.is("voice(3, 1)", cot.voice(3, 1), NONE);
        due.is("voice(-1, 1)", cot.voice(-1, 1), NONE);
        due.is("voice(2, 9)", cot.voice(2, 9), 5);
        due.is("voice(2, 0)", cot.voice(2, 0), 9);
        due.is("house(2, 2)", Due.houseOf(cot, 2, 2), 0);
        cot.undo();
        due.is("house(2, 2) behind undo", Due.houseOf(cot, 2, 2), 9);
    }

    private void nights() {
        due.part("16 night");
        MonsterCot cot = Due.cot("sc24e25l5;bp9k1;hn3s40;hn4;hn0", "");
        due.is("not ENOUGH", cot.night(), 0);
        due.is("5 and 2 less", cot.rule(0), 17);
        due.is("AWAKE", cot.count(9), 3);
        due.is("TURNS", Due.houseOf(cot, 0, 4), 1);
        due.is("count(6)", cot.count(6), 1);
        cot.read(0, 8, false);
        due.is("rule(0)", cot.rule(0), 49);
        due.is("ENOUGH", cot.night(), 4);
        due.is("5 less", cot.rule(0), 44);
        due.is("6 less TIRED", Due.houseOf(cot, 1, 3), 2);
        due.is("one less BORED", cot.bored(1), 0);
        due.is("READ no more", cot.tome(0, 3), 0);
        due.is("none sleeps", cot.night(), 0);
        due.is("count(8)", cot.count(8), 4);
        due.is("count(9)", cot.count(9), 3);
        due.is("0 TIRED at the least", Due.houseOf(cot, 1, 3), 0);
        cot = Due.cot("sc99;bp1;bp1;bp1;bp1k1;hs40", "");
        for (int book = 0; book < 4; book++) {
            cot.read(book, 1, false);
        }
        cot.night();
        due.is("3 BORED, then 2", cot.bored(0), 2);
        due.is("1 BORED, then 0", cot.bored(1), 0);
        cot = Due.cot("sc25e25l30;b;h", "");
        due.is("just ENOUGH", cot.night(), 2);
        due.is("0 at the least", cot.rule(0), 0);
        for (int i = 0; i < 333; i++) {
            cot.years(30, i);
        }
        due.is("9,991", cot.count(6), 9991);
        due.is("years(9) beyond", cot.years(9, 1), NONE);
        due.is("years(8)", cot.years(8, 1), 9999);
        cot.undo();
        Due.keep(cot, 2, "n;m;n");
        due.is("RUN to 9,999", cot.run(0, 0), 2);
        due.is("quiet goes on", cot.quiet() >= 0, true);
        cot.night();
        due.is("the last one", cot.count(6), 9999);
        due.is("none goes by then", cot.night(), NONE);
        due.is("years(1)", cot.years(1, 1), NONE);
        due.is("RUN", cot.run(0, 0), 0);
        due.is("perform", cot.perform(0), 0);
        due.is("TURNS", Due.houseOf(cot, 0, 4), 9999);
        due.is("it is still told", cot.count(6), 9999);
        Due.keep(cot, 1, "y:n-9989");
        cot.law(0);
        cot.undo();
        int calm = cot.rule(0);
        due.is("NIGHT in a LAW", cot.calms(0, 1), calm + 9);
    }

    private void years() {
        due.part("17 years");
        due.is("years(1)", Due.cot("b;h", "").years(1, 3), 1);
        MonsterCot cot = Due.cot("sc50;bp9c5k0;bp3c6k1;bp1c2k2;hs20;hn5s12v9", "");
        due.is("years(0)", cot.years(0, 1), NONE);
        due.is("years(31)", cot.years(31, 1), NONE);
        due.is("years(-1)", cot.years(-1, 1), NONE);
        cot.hush(5);
        MonsterCot byHand = Due.cot("sc50;bp9c5k0;bp3c6k1;bp1c2k2;hs20;hn5s12v9", "");
        long x = -77;
        int milks = 0;
        int[] pages = {9, 3, 1};
        for (int night = 0; night < 30; night++) {
            for (int twice = 0; twice < 2; twice++) {
                x = x * 6364136223846793005L + 1442695040888963407L;
                int book = (int) ((x >>> 33) % 3);
                x = x * 6364136223846793005L + 1442695040888963407L;
                byHand.read(book, Math.min(pages[book], (int) ((x >>> 33) % 9) + 1), false);
            }
            x = x * 6364136223846793005L + 1442695040888963407L;
            if ((x >>> 33) % 10 < 5 && byHand.milk() != NONE) {
                milks++;
            }
            byHand.night();
        }
        due.is("some MILK by hand", milks > 5 && milks < 25, true);
        due.is("years(30, -77)", cot.years(30, -77), 30);
        for (int i = 0; i < 30; i++) {
            for (int what = 0; what < 3; what++) {
                due.is("log(" + i + ", " + what + ")", cot.log(i, what), byHand.log(i, what));
            }
        }
        due.is("rule(0)", cot.rule(0), byHand.rule(0));
        due.is("count(8)", cot.count(8), byHand.count(8));
        due.is("each NIGHT an ACT", cot.count(15), 30);
        due.is("undo()", cot.undo(), 29);
        due.is("count(6)", cot.count(6), 29);
        due.is("READ is undone, too", cot.tome(0, 3) + cot.tome(1, 3) + cot.tome(2, 3), 0);
        due.is("years(20)", cot.years(20, 5), 49);
        due.is("40 ACTS", cot.count(15), 40);
    }

    private void undoing() {
        due.part("18 undo");
        MonsterCot cot = Due.cot(TWO, "");
        due.is("undo() of none", cot.undo(), NONE);
        cot.read(0, 3, true);
        cot.milk();
        cot.goes(1);
        cot.night();
        due.is("undo() of a NIGHT", cot.undo(), 3);
        due.is("count(14)", cot.count(14), 0);
        due.is("count(7)", cot.count(7), 1);
        due.is("count(8)", cot.count(8), 0);
        due.is("house(1, 4)", Due.houseOf(cot, 1, 4), 0);
        due.is("tome(0, 3)", cot.tome(0, 3), 1);
        due.is("undo() of going", cot.undo(), 2);
        due.is("count(11)", cot.count(11), 0);
        due.is("count(7) again", cot.count(7), 0);
        due.is("undo() of MILK", cot.undo(), 1);
        due.is("rule(0)", cot.rule(0), 15);
        due.is("count(10)", cot.count(10), 0);
        due.is("undo() of READ", cot.undo(), 0);
        due.is("rule(0) at first", cot.rule(0), 10);
        due.is("tome(0, 3) at first", cot.tome(0, 3), 0);
        due.is("bored(0)", cot.bored(0), 0);
        due.is("left(0)", cot.left(0), 6);
        due.is("undo() no more", cot.undo(), NONE);
        for (int i = 0; i < 50; i++) {
            cot.voice(0, i % 2);
        }
        due.is("40 at the most", cot.count(15), 40);
        for (int i = 39; i >= 0; i--) {
            due.is("undo()", cot.undo(), i);
            due.is("house(0, 2)", Due.houseOf(cot, 0, 2), 1 - i % 2);
        }
        due.is("undo() behind forty", cot.undo(), NONE);
    }

    private void logging() {
        due.part("19 log");
        MonsterCot cot = Due.cot("sc99e1l1;b;hn1;hn2;hn3", "");
        due.is("log(0, 0)", cot.log(0, 0), NONE);
        for (int night = 0; night < 97; night++) {
            cot.night();
        }
        due.is("count(14)", cot.count(14), 60);
        for (int i = 0; i < 60; i++) {
            due.is("log(" + i + ", 0)", cot.log(i, 0), (96 - i) % 3);
            due.is("log(" + i + ", 1)", cot.log(i, 1), 99 - (96 - i));
            due.is("log(" + i + ", 2)", cot.log(i, 2), (96 - i) % 3 + 1);
        }
        due.is("log(60, 0)", cot.log(60, 0), NONE);
        due.is("log(-1, 0)", cot.log(-1, 0), NONE);
        due.is("log(0, 3)", cot.log(0, 3), NONE);
        due.is("log(0, -1)", cot.log(0, -1), NONE);
        for (int i = 0; i < 40; i++) {
            cot.undo();
        }
        due.is("count(14) of 57", cot.count(14), 57);
        due.is("the first one is there again", cot.log(56, 1), 99);
        due.is("the latest one", cot.log(0, 1), 99 - 56);
        due.is("log(57, 1)", cot.log(57, 1), NONE);
        for (int i = 0; i < 30; i++) {
            cot.night();
        }
        for (int i = 0; i < 25; i++) {
            cot.undo();
        }
        due.is("count(14) of 62", cot.count(14), 60);
        for (int i = 0; i < 60; i++) {
            due.is("log(" + i + ", 1) of 62", cot.log(i, 1), 99 - (61 - i));
        }
    }

    private void weeks() {
        MonsterCot cot = Due.cot(TWO, "");
        due.is("a WEEK", Due.keep(cot, 2, "r12;k04;n;g0;m;n"), 0);
        due.part("20 step");
        int[][] steps = {{0, 1, 2}, {1, 0, 4}, {3, NONE, NONE}, {4, 0, NONE}, {2, NONE, NONE}, {3, NONE, NONE}};
        for (int i = 0; i < steps.length; i++) {
            for (int what = 0; what < 3; what++) {
                due.is("step(0, " + i + ", " + what + ")", cot.step(0, i, what), steps[i][what]);
            }
        }
        due.is("step(0, 6, 0)", cot.step(0, 6, 0), HIDDEN);
        due.is("step(0, -1, 0)", cot.step(0, -1, 0), HIDDEN);
        due.is("step(1, 0, 0)", cot.step(1, 0, 0), HIDDEN);
        due.is("step(-1, 0, 0)", cot.step(-1, 0, 0), HIDDEN);
        due.is("step(0, 0, 3)", cot.step(0, 0, 3), HIDDEN);
        due.is("step(0, 0, -1)", cot.step(0, 0, -1), HIDDEN);
        due.part("21 run");
        due.is("run(0, 0)", cot.run(0, 0), NONE);
        due.is("run(0, 1)", cot.run(0, 1), 4);
        due.is("run(0, 2)", cot.run(0, 2), HIDDEN);
        due.is("run(0, -1)", cot.run(0, -1), HIDDEN);
        due.is("run(1, 0)", cot.run(1, 0), HIDDEN);
        due.is("nothing changed", cot.count(15) + cot.count(6), 0);
        Due.keep(cot, 2, "n;g0;g9;n;n");
        due.is("run(1, 0)", cot.run(1, 0), 2);
        Due.keep(cot, 2, "g1;n;r74;n");
        due.is("run(2, 0)", cot.run(2, 0), 2);
        due.is("run(2, 1)", cot.run(2, 1), 0);
        MonsterCot skips = Due.cot("sc50;bp9c1;bp9c1k1;hs40v0;h", "");
        Due.keep(skips, 2, "r01;k12;k11;n");
        Due.keep(skips, 2, "r01;k12;r11;n");
        Due.keep(skips, 2, "k02;r11;g1;r11");
        due.is("SKIPPED one of one", skips.run(0, 0), 2);
        due.is("READ again", skips.run(1, 0), 2);
        due.is("all but the last", skips.run(2, 0), 3);
        due.is("perform(2)", skips.perform(2), 3);
        due.is("50 and 1 less 5 and 1", skips.rule(0), 47);
        due.part("22 perform");
        due.is("perform(3)", cot.perform(3), NONE);
        due.is("perform(-1)", cot.perform(-1), NONE);
        due.is("perform(0)", cot.perform(0), 6);
        due.is("count(8)", cot.count(8), 4);
        due.is("count(15)", cot.count(15), 6);
        due.is("count(14)", cot.count(14), 2);
        due.is("log(0, 1)", cot.log(0, 1), 34);
        due.is("undo()", cot.undo(), 5);
        due.is("rule(0)", cot.rule(0), 34);
        due.is("perform(1)", cot.perform(1), 2);
        due.is("perform(2)", cot.perform(2), 0);
        due.is("count(6)", cot.count(6), 2);
        MonsterCot bare = new MonsterCot();
        Due.keep(bare, 2, "m");
        due.is("run without a LANDING", bare.run(0, 0), HIDDEN);
        due.is("perform without a LANDING", bare.perform(0), NONE);
        due.is("step without a LANDING", bare.step(0, 0, 0), 2);
    }

    private void calming() {
        due.part("23 calms");
        MonsterCot cot = Due.cot(TWO, "");
        due.is("calms(0, 4)", cot.calms(0, 4), 30);
        due.is("calms(3, 1)", cot.calms(3, 1), NONE);
        due.is("calms(-1, 1)", cot.calms(-1, 1), NONE);
        due.is("calms(2, 4)", cot.calms(2, 4), NONE);
        due.is("calms(2, 0)", cot.calms(2, 0), NONE);
        cot.read(0, 4, false);
        due.is("READ or not", cot.calms(0, 2), 38);
        due.is("too TIRED", cot.calms(0, 3), NONE);
        due.is("nothing changed", cot.count(15), 1);
        cot.goes(1);
        due.is("another FATHER", cot.calms(0, 4), 38);
    }

    private void leastRows() {
        due.part("24 least");
        MonsterCot cot = Due.cot("sc20e20;b;h", "");
        due.is("least(0), ENOUGH", cot.least(0), 0);
        due.is("least(1), ENOUGH", cot.least(1), 0);
        due.is("least(2)", cot.least(2), NONE);
        due.is("least(-1)", cot.least(-1), NONE);
        cot = Due.cot("sc0e20;bp3c5k0;bp3c5k0;bp9c1k1;hs40v0", "");
        // 5 a page; 4 a page of the other BOOK of that KIND: 3 and 2 are 23, 2 and 3 are 22.
        due.is("least(0), two BOOKS", cot.least(0), 5);
        due.is("least(1), the least row", cot.least(1), 213);
        cot.read(0, 3, false);
        due.is("15 so far", cot.rule(0), 15);
        due.is("least(0), one READ", cot.least(0), 2);
        due.is("least(1), one READ", cot.least(1), 12);
        cot = Due.cot("sc0e13;bp9c1;bp1c6k1;bp1c6k2;bp1c1k3;hs40v0", "");
        due.is("least(0), three BOOKS", cot.least(0), 3);
        due.is("least(1), three BOOKS", cot.least(1), 11121);
        cot = Due.cot("sc0e13;bp9c1;bp1c6k1;bp1c6k2;bp1c1k3;hs2v0", "");
        due.is("least(0), too TIRED", cot.least(0), NONE);
        due.is("least(1), too TIRED", cot.least(1), NONE);
        cot = Due.cot("sc0e4;bp1c1;bp1c1k1;bp1c1k2;bp1c1k3;hs40v0", "");
        due.is("not by four", cot.least(0), NONE);
        // The first page does harm, the later ones more and more good: rows must be seen to their end.
        cot = Due.cot("sc5e20;bp5c0;bp5c0;hs40v0", "y:p*p-1");
        due.is("least(0), no page by page", cot.least(0), 5);
        due.is("least(1), no page by page", cot.least(1), 5);
        cot = Due.cot("sc0e30;bp9c9;bp9c9k1;hs40v0", "y:t*2");
        due.is("least(0) by TIRED", cot.least(0), 6);
        due.is("least(1), one BOOK ahead of two", cot.least(1), 6);
    }

    private void bestBooks() {
        due.part("25 best");
        MonsterCot cot = Due.cot("sc0;bp2c9;bp5c3k1;bp5c3k2;hs10v0", "");
        due.is("best(2, 0)", cot.best(2, 0), 0);
        due.is("best(2, 1)", cot.best(2, 1), 18);
        due.is("best(3, 0), the lowest", cot.best(3, 0), 1);
        due.is("best(3, 1)", cot.best(3, 1), 9);
        due.is("best(6, 0)", cot.best(6, 0), NONE);
        due.is("best(6, 1)", cot.best(6, 1), NONE);
        due.is("best(0, 0)", cot.best(0, 0), NONE);
        due.is("best(10, 0)", cot.best(10, 0), NONE);
        due.is("best(9, 0)", Due.cot("bp9;h", "").best(9, 0), 0);
        due.is("best(2, 2)", cot.best(2, 2), NONE);
        due.is("best(2, -1)", cot.best(2, -1), NONE);
        cot.read(1, 5, false);
        due.is("best(5, 0), one READ", cot.best(5, 0), 2);
        cot.read(2, 4, false);
        due.is("best(1, 0)", cot.best(1, 0), 0);
        due.is("best(2, 0), too TIRED", cot.best(2, 0), NONE);
        cot = Due.cot("sc0;bp2;h", "y:0-1");
        due.is("CALM 0 is one, too", cot.best(2, 0), 0);
        due.is("CALM 0", cot.best(2, 1), 0);
    }

    private void rosters() {
        due.part("26 roster");
        MonsterCot cot = Due.cot("sc0e20l9;bp4c4;hn1v0;hn9v3;hn5v9", "");
        // 16 more in HOUSE 0, not ENOUGH at first; 20 in HOUSE 1, just ENOUGH; 28 in HOUSE 2.
        due.is("roster(0, 0)", cot.roster(0, 0), 102);
        due.is("roster(0, 1)", cot.roster(0, 1), 15);
        due.is("roster(1, 0)", cot.roster(1, 0), NONE);
        due.is("roster(-1, 0)", cot.roster(-1, 0), NONE);
        due.is("roster(0, 2)", cot.roster(0, 2), NONE);
        due.is("roster(0, -1)", cot.roster(0, -1), NONE);
        cot.read(0, 1, false);
        due.is("READ this NIGHT: the first one for nothing", cot.roster(0, 0), 12);
        cot.goes(2);
        due.is("it went this NIGHT", cot.roster(0, 1), 14);
        due.is("nothing changed", cot.count(15), 2);
        cot = Due.cot("sc20e20l20;bp9c9;hn1s1;hn9s1", "");
        due.is("he can't: it is the first HOUSE that counts", cot.roster(0, 0), 10);
        due.is("nine sleep", cot.roster(0, 1), 9);
        cot = Due.cot("sc0e20l9;bp4c5;hn2s9v0;hn2s6v0", "");
        cot.goes(1);
        cot.read(0, 3, false);
        cot.night();
        cot.read(0, 4, false);
        due.is("TIRED ones rest: READ, 9 and 6", Due.houseOf(cot, 0, 3) * 10 + Due.houseOf(cot, 1, 3), 40);
        cot = Due.cot("sc0e20l30;bp7c3;hn2s12v0;hn3s7v0", "");
        cot.read(0, 6, false);
        cot.night();
        cot.night();
        cot.read(0, 6, false);
        cot.night();
        // CALM 0; HOUSE 0 is 0 TIRED, HOUSE 1 0: 21 a NIGHT, less 30.
        due.is("both sleep", cot.roster(0, 1), 5);
        cot.read(0, 1, false);
        // HOUSE 1 is 1 TIRED and can't read seven pages tonight, nor is the BOOK to be READ again.
        due.is("the other one sleeps", cot.roster(0, 1), 3);
        due.is("so it is the second", cot.roster(0, 0), 1);
        cot = Due.cot("sc0e20l30;bp7c3;bk1;hn2s9v0;hn3s12v0", "");
        cot.read(1, 3, false);
        due.is("9 CALM", cot.rule(0), 9);
        // 3 TIRED of 9: only behind a NIGHT can he read seven pages.
        due.is("HOUSE 1 first: 9 and 21, then 21", cot.roster(0, 0), 10);
        due.is("all five", cot.roster(0, 1), 5);
        cot = Due.cot("sc0e7l30;bp7c0;hn2s40v0;hn3s40v0", "y:t=0?1;y:t=7?1");
        cot.read(0, 7, false);
        cot.night();
        cot.goes(0);
        // HOUSE 0 is 1 TIRED: 1 by t 7. TIRED 0 is 1, too.
        due.is("nobody sleeps", cot.roster(0, 1), 0);
        due.is("a single one", Due.cot("sc0e12;b;hv3", "").roster(0, 0), 0);
        due.is("a single one sleeps", Due.cot("sc0e12;b;hv3", "").roster(0, 1), 2);
        // Six HOUSES, all sleep whatever the row: the least one.
        cot = Due.cot("sc99e1l0;b;h;h;h;h;h;h", "");
        due.is("six HOUSES", cot.roster(0, 0), 12345);
        due.is("all sleep", cot.roster(0, 1), 12);
        // By the NIGHT: at NIGHT 0 a page does harm, then it calms.
        cot = Due.cot("sc20e20l0;bp1c0;hn1;hn5", "y:n*30-9");
        due.is("n in a ROSTER", cot.roster(0, 0), 1);
        due.is("n in a ROSTER, how many", cot.roster(0, 1), 5);
    }

    private void likings() {
        due.part("27 seen");
        MonsterCot cot = Due.cot("s;bp3c2k1;bp9c5k2;bp1c9k1;hv0s1;hv9", "");
        due.is("seen of BOOK 3", cot.seen(3, 1, 0, 0, true), NONE);
        due.is("seen of BOOK -1", cot.seen(-1, 1, 0, 0, true), NONE);
        due.is("seen of 0 pages", cot.seen(0, 0, 0, 0, true), NONE);
        due.is("seen of 4 pages", cot.seen(0, 4, 0, 0, true), NONE);
        due.is("seen of HOUSE 2", cot.seen(0, 1, 2, 0, true), NONE);
        due.is("seen of HOUSE -1", cot.seen(0, 1, -1, 0, true), NONE);
        due.is("seen of 100", cot.seen(0, 1, 0, 100, true), NONE);
        due.is("seen of -1", cot.seen(0, 1, 0, -1, true), NONE);
        due.part("28 likes");
        due.is("likes(NONE)", cot.likes(NONE), 5);
        for (int i = 0; i < 5; i++) {
            due.is("likes(" + i + ")", cot.likes(i), i < 4 ? i : 9);
        }
        due.is("likes(5)", cot.likes(5), NONE);
        due.is("likes(-2)", cot.likes(-2), NONE);
        due.part("29 probe");
        // All of BOOK 0 in HOUSE 0 is 6, or 15 by KIND 1: one and four. BOOK 1 likewise. BOOK 2 is 9 or 12.
        due.is("probe(0, 10)", cot.probe(0, 10), 0);
        due.is("probe(0, 16)", cot.probe(0, 16), 0);
        due.is("probe(0, 46)", cot.probe(0, 46), 1);
        due.is("probe(2, 10)", cot.probe(2, 10), NONE);
        due.is("probe(-1, 10)", cot.probe(-1, 10), NONE);
        due.is("probe(0, 99), all alike", cot.probe(0, 99), 0);
        due.is("probe(0, 0), all alike", cot.probe(0, 0), 0);
        due.is("probe(0, 15), just v", cot.probe(0, 15), 0);
        due.is("probe(0, 72), just v", cot.probe(0, 72), 1);
        due.is("probe(0, 73)", cot.probe(0, 73), 0);
        due.is("probe(0, 100)", cot.probe(0, 100), NONE);
        due.is("probe(0, -1)", cot.probe(0, -1), NONE);
        due.part("27 seen, 28 likes, 29 probe");
        due.is("seen: 6, or 15", cot.seen(0, 3, 0, 6, true), 1);
        due.is("likes(NONE), nothing told by it", cot.likes(NONE), 5);
        due.is("seen: not 15", cot.seen(0, 3, 0, 15, false), 2);
        due.is("likes(NONE), not KIND 1", cot.likes(NONE), 4);
        due.is("likes(1)", cot.likes(1), 2);
        due.is("STRENGTH does not matter: 45, or 72 by KIND 2", cot.seen(1, 9, 0, 46, true), 3);
        due.is("likes(NONE), KIND 2", cot.likes(NONE), 1);
        due.is("likes(0)", cot.likes(0), 2);
        due.is("likes(1) of one", cot.likes(1), NONE);
        due.is("seen by VOICE 9: 15 by 3 pages", cot.seen(0, 3, 1, 15, true), 4);
        due.is("likes(0) still", cot.likes(0), 2);
        cot.voice(1, 8);
        due.is("VOICE as now: 12", cot.likes(NONE), 0);
        due.is("probe, nothing fits", cot.probe(0, 10), NONE);
        cot.undo();
        due.is("seen of 99", cot.seen(0, 1, 0, 99, false), 5);
        for (int i = 6; i <= 10; i++) {
            due.is("seen", cot.seen(0, 1, 0, 0, true), i);
        }
        due.is("an eleventh one", cot.seen(0, 1, 0, 0, true), NONE);
        due.is("count(13)", cot.count(13), 10);
        due.is("likes(NONE) of ten", cot.likes(NONE), 1);
        cot = Due.cot("sc50;bp9c0k1;h", "y:19+t*[n+1]");
        cot.read(0, 9, false);
        cot.night();
        due.is("19 and 20 at the most, by KIND 1 20 each", cot.seen(0, 2, 0, 40, true), 1);
        due.is("only KIND 1", cot.likes(NONE), 1);
        due.is("it is KIND 1", cot.likes(0), 1);
        cot.seen(0, 1, 0, 21, false);
        due.is("20 at the most", cot.likes(NONE), 1);
        cot = Due.cot("s;bp3c0k1;bp1c0k0;h", "y:t*5-5+b*100+n*100");
        cot.read(0, 3, false);
        cot.night();
        due.is("page by page: 0, 0, 5 or 0, 3, 11", cot.seen(0, 3, 0, 11, true), 1);
        due.is("KIND 1 then", cot.likes(0), 1);
        cot.seen(0, 3, 0, 12, false);
        due.is("KIND 1 still", cot.likes(NONE), 1);
        due.is("probe: one apart by each", cot.probe(0, 11), 0);
    }

    private void whichSets() {
        due.part("30 which");
        MonsterCot cot = Due.cot("sc10;bp1c3k1;bp1c3k1;bp1c2k2;hs2v0", "");
        due.is("which(10, NONE)", cot.which(10, NONE), 1);
        due.is("which(10, 0)", cot.which(10, 0), 0);
        due.is("which(13, NONE)", cot.which(13, NONE), 2);
        due.is("which(13, 0)", cot.which(13, 0), 1);
        due.is("which(13, 1)", cot.which(13, 1), 2);
        due.is("which(13, 2)", cot.which(13, 2), NONE);
        due.is("which(15, NONE), BORED by the other one", cot.which(15, NONE), 3);
        due.is("which(15, 0)", cot.which(15, 0), 3);
        due.is("which(15, 1)", cot.which(15, 1), 5);
        due.is("which(15, 2)", cot.which(15, 2), 6);
        due.is("which(17, NONE), too TIRED", cot.which(17, NONE), 0);
        due.is("which(99, NONE)", cot.which(99, NONE), 0);
        due.is("which(0, NONE)", cot.which(0, NONE), 0);
        due.is("which(100, NONE)", cot.which(100, NONE), NONE);
        due.is("which(-1, NONE)", cot.which(-1, NONE), NONE);
        due.is("which(13, -2)", cot.which(13, -2), NONE);
        cot.read(1, 1, false);
        due.is("which(15, NONE), one READ", cot.which(15, NONE), 2);
        due.is("which(15, 0), one READ", cot.which(15, 0), 1);
        due.is("which(15, 1), one READ", cot.which(15, 1), 4);
        due.is("which(13, 0), one READ", cot.which(13, 0), 0);
        // TIRED goes on from BOOK to BOOK: 0 1, then 2 3 4.
        cot = Due.cot("sc0;bp2c0;bp3c0;hs9", "y:t+p");
        due.is("0 and 2", cot.which(2, 0), 1);
        due.is("0, 2 and 4", cot.which(6, 0), 2);
        due.is("0 and 2, 2, 4 and 6", cot.which(14, 0), 3);
    }

    /** Sets for which he would be far too TIRED must leave nothing behind that another page is taken for. */
    private void whichFarTooTired() {
        due.part("30 which, far too TIRED");
        String books = "bp9c0k0;bp9c0k1;bp9c0k2;bp9c0k3;bp9c0k0;bp9c0k1";
        MonsterCot cot = Due.cot("sc0e1l30;" + books + ";hs40v0;hs40v1", "y:t");
        for (int book = 0; book < 4; book++) {
            cot.read(book, 9, false);
        }
        cot.goes(1);
        cot.night();
        due.is("30 TIRED", Due.houseOf(cot, 0, 3), 30);
        due.is("69 CALM", cot.rule(0), 69);
        due.is("one set", cot.which(69, NONE), 1);
        cot.goes(1);
        cot.read(0, 2, false);
        due.is("70 CALM", cot.rule(0), 70);
        due.is("2 by the next page", cot.calms(4, 1), 72);
    }

    private void games() {
        due.part("31 game");
        MonsterCot cot = Due.cot(TWO, "");
        due.is("alike", cot.game(1, 1, 0, 0, 0, 0), HIDDEN);
        due.is("HOUSE 2", cot.game(0, 2, 0, 0, 0, 0), HIDDEN);
        due.is("HOUSE -1", cot.game(-1, 1, 0, 0, 0, 0), HIDDEN);
        due.is("BOOK 3", cot.game(0, 1, 3, 0, 0, 0), HIDDEN);
        due.is("x -1", cot.game(0, 1, 0, -1, 0, 0), HIDDEN);
        due.is("y 5", cot.game(0, 1, 0, 0, 5, 0), HIDDEN);
        due.is("what 2", cot.game(0, 1, 0, 0, 0, 2), HIDDEN);
        due.is("what -1", cot.game(0, 1, 0, 0, 0, -1), HIDDEN);
        // BOOK 0: 5 a page by the first; by the other one 3, or 2 behind the first one's.
        due.is("10 and 5: less than the other one", cot.game(0, 1, 0, 1, 2, 0), -3);
        due.is("it read more", cot.game(0, 1, 0, 1, 2, 1), -2);
        due.is("as many", cot.game(0, 1, 0, 1, 1, 0), -1);
        due.is("ENOUGH", cot.game(0, 1, 0, 2, 0, 0), 7);
        due.is("ENOUGH for the other one", cot.game(0, 1, 0, 2, 0, 1), 9);
        due.is("15 and 4 and 2: 21", cot.game(0, 1, 0, 1, 3, 1), 6);
        due.is("the other way: 13 and 4 is 17", cot.game(1, 0, 0, 1, 1, 0), -1);
        due.is("4 by 3 is 22", cot.game(1, 0, 0, 4, 0, 0), 5);
        cot.read(0, 4, false);
        cot.goes(1);
        due.is("READ, elsewhere, too TIRED or not", cot.game(0, 1, 0, 4, 4, 0), 5);
        MonsterCot tired = Due.cot("sc0e20;bp9c0k1;bp5c0k2;hs9;hs9", "y:t+p+b*2");
        tired.read(1, 5, false);
        due.is("rule(0)", tired.rule(0), 20);
        tired.night();
        due.is("12 left, TIRED 0", tired.rule(0), 12);
        tired.read(0, 3, false);
        due.is("0, 2, 4 by another FATHER", tired.rule(0), 18);
        due.is("BORED 1: 2 by the first of HOUSE 0", tired.game(0, 1, 0, 1, 0, 0), 8);
        due.is("TIRED 3 and BORED 1: 5", tired.game(0, 1, 0, 0, 1, 1), 8);
        due.part("32 rests");
        due.is("alike", cot.rests(0, 0, 0, NONE), NONE);
        due.is("HOUSE 2", cot.rests(0, 2, 0, NONE), NONE);
        due.is("BOOK 3", cot.rests(0, 1, 3, NONE), NONE);
        due.is("BOOK -1", cot.rests(0, 1, -1, NONE), NONE);
        // CALM is ENOUGH as it is: nobody reads.
        due.is("rests(NONE)", cot.rests(0, 1, 0, NONE), 1);
        due.is("rests(0)", cot.rests(0, 1, 0, 0), 0);
        due.is("rests(1)", cot.rests(0, 1, 0, 1), NONE);
        due.is("rests(-2)", cot.rests(0, 1, 0, -2), NONE);
        cot = Due.cot(TWO, "");
        due.is("BOOK 1", cot.rests(1, 0, 1, NONE), 3);
        due.is("BOOK 1, 0", cot.rests(1, 0, 1, 0), 2);
        due.is("BOOK 1, 1", cot.rests(1, 0, 1, 1), 11);
        due.is("BOOK 1, 2", cot.rests(1, 0, 1, 2), 20);
        // Never ENOUGH: who reads as much as the other one loses more by less, up to two pages.
        cot = Due.cot("sc0e99;bp3c1;h;h", "");
        due.is("never ENOUGH", cot.rests(0, 1, 0, NONE), 3);
        due.is("never ENOUGH, 0", cot.rests(0, 1, 0, 0), 0);
        due.is("never ENOUGH, 1", cot.rests(0, 1, 0, 1), 11);
        due.is("never ENOUGH, 2", cot.rests(0, 1, 0, 2), 22);
    }

    private void odds() {
        due.part("33 odds");
        MonsterCot cot = Due.cot("b;hn0;hn3;hn9", "");
        due.is("no CHILD", cot.odds(0, 100), 1000000);
        due.is("three of 33", cot.odds(1, 33), 300763);
        due.is("nine of 7", cot.odds(2, 7), 520414);
        due.is("nine of 100", cot.odds(2, 100), 0);
        due.is("nine of 0", cot.odds(2, 0), 1000000);
        due.is("101", cot.odds(2, 101), NONE);
        due.is("-1", cot.odds(2, -1), NONE);
        due.is("HOUSE 3", cot.odds(3, 1), NONE);
        due.is("HOUSE -1", cot.odds(-1, 1), NONE);
    }

    private void lasting() {
        due.part("34 lasts");
        MonsterCot cot = Due.cot("sc20e20l5;bp1c4;bp1c5;bp9c0;hv0s1;h", "");
        // 24, 19 and 23, 22, 21, 20, then 19.
        due.is("lasts(0)", cot.lasts(0), 5);
        due.is("lasts(1), it goes on", cot.lasts(1), 20);
        due.is("lasts(2), once, STRENGTH or not", cot.lasts(2), 1);
        due.is("lasts(3)", cot.lasts(3), NONE);
        due.is("lasts(-1)", cot.lasts(-1), NONE);
        cot.read(0, 1, false);
        due.is("READ, BORED 1 and 1: 24 and 3, 22 and 3 ..", cot.lasts(0), 4);
        due.is("nothing changed", cot.count(15), 1);
        cot = Due.cot("sc9e10l1;bp5;h", "y:t=0?1;y:0-9");
        due.is("TIRED 0 at each page", cot.lasts(0), 20);
        due.is("as it is not in READ", cot.calms(0, 5), 0);
        cot = Due.cot("sc60e10l0;bp1c0k3;bp1c0k3;bp1c0k3;h", "y:0-b");
        cot.read(0, 1, false);
        cot.read(1, 1, false);
        cot.read(2, 1, false);
        due.is("rule(0)", cot.rule(0), 57);
        due.is("BORED stays as it was: 3 less each", cot.lasts(0), 15);
        cot = Due.cot("sc50e10l0;bp1c0;h", "y:0-n");
        due.is("n goes on: 50 less 1, 2 .. 8 is 14, less 9 is 5", cot.lasts(0), 9);
    }

    private void quieting() {
        due.part("35 quiet");
        due.is("0 now", Due.cot("sc0;b;h", "").quiet(), 0);
        due.is("99 by 2", Due.cot("sc99e99l0;b;h", "").quiet(), NONE);
        due.is("98 by 2", Due.cot("sc98e99l0;b;h", "").quiet(), 49);
        due.is("99 by 2 from 1 on", Due.cot("sc99e98l1;b;h", "").quiet(), 35);
        due.is("60 by 1", Due.cot("sc60e1l1;b;h", "").quiet(), 60);
        due.is("61 by 1", Due.cot("sc61e1l1;b;h", "").quiet(), NONE);
        due.is("10 by 8 and 2", Due.cot("b;h", "").quiet(), 1);
    }

    private void allOfThem() {
        due.part("36 all");
        MonsterCot cot = Due.cot("sc10e13;bp4;bp9k1;bp9k3;hn2s9v3;hn5s9v4;hn5s8v4", "");
        int[] first = {0, 0, 0, 1, 1, 1, 15, 7};
        for (int what = 0; what < 8; what++) {
            due.is("all(" + what + ")", cot.all(what), first[what]);
        }
        due.is("all(8)", cot.all(8), NONE);
        due.is("all(-1)", cot.all(-1), NONE);
        cot.read(1, 1, false);
        cot.milk();
        due.is("not yet ASLEEP", Due.cot("sc12e13;b;h", "").all(1), 0);
        due.is("just ASLEEP", Due.cot("sc13e13;b;h", "").all(1), 1);
        due.is("ASLEEP", cot.all(1), 1);
        due.is("STRONGEST", cot.all(2), 1);
        due.is("FRESH", cot.all(6), 13);
        due.is("OPEN", cot.all(7), 1);
        cot.night();
        due.is("FAIR", cot.all(0), 1);
        cot.voice(0, 9);
        due.is("LOUDEST", cot.all(3), 0);
        cot.night();
        due.is("FAIR again", cot.all(0), 2);
        cot.night();
        due.is("FAIR at last", cot.all(0), 0);
    }

    private void images() {
        due.part("39 image, 40 back");
        MonsterCot cot = Due.cot(TWO, "");
        due.is("back() of none", cot.back(), NONE);
        cot.night();
        cot.read(0, 2, false);
        cot.milk();
        cot.goes(0);
        cot.voice(1, 7);
        due.is("image()", cot.image(), 1);
        due.is("no ACT", cot.count(15), 5);
        int calm = cot.rule(0);
        Due.keep(cot, 1, "y:1");
        cot.law(0);
        cot.hush(3);
        cot.seen(0, 1, 0, 0, true);
        for (int i = 0; i < 4; i++) {
            cot.years(30, i);
        }
        cot.voice(1, 1);
        due.is("back()", cot.back(), 1);
        due.is("undo()", cot.undo(), NONE);
        int[] counts = {2, 3, 1, 0, 0, 0, 1, 0, 0, 2, 1, 1, 3, 1, 1, 0};
        for (int what = 0; what < counts.length; what++) {
            due.is("count(" + what + ")", cot.count(what), counts[what]);
        }
        due.is("rule(0)", cot.rule(0), calm);
        due.is("tome(0, 3)", cot.tome(0, 3), 1);
        due.is("bored(0)", cot.bored(0), 1);
        due.is("house(1, 2)", Due.houseOf(cot, 1, 2), 7);
        due.is("house(1, 3)", Due.houseOf(cot, 1, 3), 2);
        due.is("house(0, 4)", Due.houseOf(cot, 0, 4), 1);
        due.is("log(0, 1)", cot.log(0, 1), 10);
        due.is("log(1, 1)", cot.log(1, 1), NONE);
        cot.night();
        due.is("back() again", cot.back(), 1);
        cot.night();
        cot.night();
        due.is("image() instead", cot.image(), 3);
        cot.night();
        due.is("back() to it", cot.back(), 3);
        due.is("count(14)", cot.count(14), 3);
        Due.keep(cot, 0, "b;h");
        due.is("not of this LANDING", cot.back(), NONE);
    }

    private void counts() {
        due.part("41 count");
        MonsterCot cot = Due.cot("sc10e20;bp9;b;hn4;h;h", "y:9");
        Due.keep(cot, 2, "n");
        Due.keep(cot, 2, "n");
        Due.type(cot, "abc");
        cot.hush(2);
        cot.night();
        cot.read(0, 9, false);
        cot.night();
        cot.milk();
        cot.goes(1);
        cot.seen(0, 1, 0, 0, true);
        int[] counts = {3, 2, 1, 2, 3, 0, 2, 1, 2, 4, 1, 1, 2, 1, 2, 5};
        for (int what = 0; what < counts.length; what++) {
            due.is("count(" + what + ")", cot.count(what), counts[what]);
        }
        due.is("count(16)", cot.count(16), HIDDEN);
        due.is("count(-1)", cot.count(-1), HIDDEN);
    }
}

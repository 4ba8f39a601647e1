import java.util.function.IntPredicate;

/** Edges of TEXTS: each sentence of the Terms' first part, and promises 2 to 5. */
final class TextEdgesTest {
    private static final int NONE = Due.NONE;
    private static final int LANDING = 0;
    private static final int LAW = 1;
    private static final int WEEK = 2;
    private static final int[] FAR = {Integer.MIN_VALUE, Integer.MAX_VALUE};

    /** Clause and letter of each ITEM, its lowest and highest number, and what it is without. */
    private static final String[] ITEMS = {"sc", "se", "sl", "bp", "bc", "bk", "hn", "hs", "hv"};
    private static final int[] LOWEST = {0, 1, 0, 1, 0, 0, 0, 1, 0};
    private static final int[] HIGHEST = {99, 99, 30, 9, 9, 3, 9, 40, 9};
    private static final int[] USUAL = {10, 25, 8, 4, 3, 0, 2, 15, 5};

    private final Due due = new Due();

    public static void main(String[] args) {
        TextEdgesTest test = new TextEdgesTest();
        test.rulesOnceAtMost();
        test.oneToSixBooks();
        test.oneToSixHouses();
        test.allClausesThatMayBe();
        test.clausesInAnyOrder();
        test.clausesBetweenSemicolons();
        test.eachItemOnceAtMost();
        test.itemsOfTheirClauseAlone();
        test.oneOrTwoDigits();
        test.numbersWithinBounds();
        test.usualNumbers();
        test.landingsThatEndTooEarly();
        test.oneLawClauseAtLeast();
        test.oneToFourDigitsInLaws();
        test.atomsOfLaws();
        test.sixWithinOneAnother();
        test.conditionsOfLaws();
        test.lawsThatEndTooEarly();
        test.numbersHeldBehindEachSign();
        test.cutTowardsNought();
        test.truths();
        test.noughtWithoutClause();
        test.oneToSixteenSteps();
        test.digitsOfSteps();
        test.stepsThatAreNotThere();
        test.blanksBetweenSigns();
        test.noBlanksWithinNumbers();
        test.onlyBlanksAreBlanks();
        test.bytesOfFeed();
        test.tapeOfNoneTo240();
        test.endsOfTheTape();
        test.sortsOfFaults();
        test.faultOfNothing();
        test.sortsOfTexts();
        test.fourLawsAndWeeks();
        test.landingInsteadOfAnother();
        test.fewerThanAhead();
        test.due.end();
    }

    private void faultIs(int sort, String text, int want) {
        due.is("fault(" + sort + ") of '" + text + "'", Due.faultOf(new MonsterCot(), sort, text), want);
    }

    private void right(int sort, String text) {
        faultIs(sort, text, NONE);
    }

    /** Wrong only by its end. */
    private void tooShort(int sort, String text) {
        faultIs(sort, text, text.length());
    }

    private static String times(String text, int many, String between) {
        return String.join(between, java.util.Collections.nCopies(many, text));
    }

    // ---- LANDING

    private void rulesOnceAtMost() {
        due.part("s: one at most");
        right(LANDING, "b;h");
        right(LANDING, "s;b;h");
        faultIs(LANDING, "s;s;b;h", 2);
        faultIs(LANDING, "s;b;s;h", 4);
        faultIs(LANDING, "sc1;b;h;sc2", 8);
        faultIs(LANDING, "b;h;s;s", 6);
    }

    private void oneToSixBooks() {
        due.part("b: 1 .. 6");
        tooShort(LANDING, "h");
        tooShort(LANDING, "h;s");
        for (int many = 1; many <= 6; many++) {
            right(LANDING, "h;" + times("b", many, ";"));
        }
        faultIs(LANDING, "h;" + times("b", 7, ";"), 14);
        faultIs(LANDING, times("b", 7, ";"), 12);
        faultIs(LANDING, "b;b;b;h;b;b;b;b", 14);
        MonsterCot cot = new MonsterCot();
        due.is("text(0)", Due.keep(cot, LANDING, "h;" + times("b", 6, ";")), 1);
        due.is("six BOOKS", cot.count(1), 6);
        due.is("text(0) of one", Due.keep(cot, LANDING, "h;b"), 1);
        due.is("one BOOK", cot.count(1), 1);
        due.is("text(0) of seven", Due.keep(cot, LANDING, "h;" + times("b", 7, ";")), NONE);
        due.is("still one BOOK", cot.count(1), 1);
    }

    private void oneToSixHouses() {
        due.part("h: 1 .. 6");
        tooShort(LANDING, "b");
        tooShort(LANDING, "b;s");
        for (int many = 1; many <= 6; many++) {
            right(LANDING, "b;" + times("h", many, ";"));
            due.is(many + " HOUSES", Due.keep(new MonsterCot(), LANDING, "b;" + times("h", many, ";")), many);
        }
        faultIs(LANDING, "b;" + times("h", 7, ";"), 14);
        faultIs(LANDING, times("h", 7, ";"), 12);
        faultIs(LANDING, "h;h;h;b;h;h;h;h", 14);
        MonsterCot cot = Due.cot("b;h;h", "");
        due.is("text(0) of seven", Due.keep(cot, LANDING, "b;" + times("h", 7, ";")), NONE);
        due.is("still two HOUSES", cot.count(0), 2);
    }

    private void allClausesThatMayBe() {
        due.part("all that may be");
        String all = times("b", 6, ";") + ";" + times("h", 6, ";") + ";s";
        right(LANDING, all);
        right(LANDING, new StringBuilder(all).reverse().toString());
        faultIs(LANDING, all + ";s", 26);
        faultIs(LANDING, all + ";b", 26);
        faultIs(LANDING, all + ";h", 26);
        String longest = times("bp9c9k3", 6, ";") + ";" + times("hn9s40v9", 6, ";") + ";sc99e99l30";
        right(LANDING, longest);
        MonsterCot cot = Due.cot(longest, "");
        due.is("the last BOOK", cot.tome(5, 0) * 100 + cot.tome(5, 1) * 10 + cot.tome(5, 2), 993);
        due.is("the last HOUSE", Due.houseOf(cot, 5, 0) * 1000 + Due.houseOf(cot, 5, 1) * 10 + Due.houseOf(cot, 5, 2),
                9409);
    }

    private void clausesInAnyOrder() {
        due.part("in any order");
        for (String order : new String[] {"s;b;h", "s;h;b", "b;s;h", "b;h;s", "h;s;b", "h;b;s"}) {
            right(LANDING, order);
        }
        MonsterCot cot = Due.cot("hn1;bp1;hn2;bp2;s;hn3;bp3", "");
        for (int i = 0; i < 3; i++) {
            due.is("HOUSE " + i, Due.houseOf(cot, i, 0), i + 1);
            due.is("BOOK " + i, cot.tome(i, 0), i + 1);
        }
    }

    private void clausesBetweenSemicolons() {
        due.part("; between");
        tooShort(LANDING, "");
        faultIs(LANDING, ";b;h", 0);
        faultIs(LANDING, "b;;h", 2);
        tooShort(LANDING, "b;h;");
        faultIs(LANDING, "b h", 2);
        faultIs(LANDING, "bp1h", 3);
        for (int sign = 1; sign < 256; sign++) {
            boolean clause = "sbh ".indexOf(sign) >= 0;
            faultIs(LANDING, "" + (char) sign, clause ? 1 : 0);
            faultIs(LANDING, "b;h;" + (char) sign, "sbh".indexOf(sign) >= 0 ? NONE : sign == ' ' ? 5 : 4);
        }
    }

    private void eachItemOnceAtMost() {
        due.part("each letter once at most");
        for (String item : ITEMS) {
            char letter = item.charAt(1);
            faultIs(LANDING, item + "1" + letter + "1;b;h", 3);
            faultIs(LANDING, item + "1" + letter, 3);
            // Of two CLAUSES each has it once, but there is one s alone.
            if (item.charAt(0) != 's') {
                right(LANDING, item + "1;" + item + "1;b;h");
            }
        }
        right(LANDING, "sl1e1c1;bk1c1p1;hv1s1n1");
        faultIs(LANDING, "b;h;sc1e1l1c1", 11);
        faultIs(LANDING, "h;bp1c1k1k1", 9);
        faultIs(LANDING, "b;hn1s1v1s1", 9);
    }

    private void itemsOfTheirClauseAlone() {
        due.part("ITEMS of their CLAUSE");
        String[] letters = {"cel", "pck", "nsv"};
        for (int clause = 0; clause < 3; clause++) {
            for (int sign = 1; sign < 256; sign++) {
                boolean item = letters[clause].indexOf(sign) >= 0;
                boolean goesOn = sign == ' ' || sign == ';';
                String text = "sbh".charAt(clause) + "" + (char) sign + "1";
                // What is behind the last digit is what is missing: a BOOK, a HOUSE.
                faultIs(LANDING, text, item ? 3 : goesOn ? 2 : 1);
            }
        }
    }

    private void oneOrTwoDigits() {
        due.part("one or two digits");
        for (String item : ITEMS) {
            tooShort(LANDING, item);
            faultIs(LANDING, item + ";b;h", 2);
            right(LANDING, item + "1;b;h");
            right(LANDING, item + "01;b;h");
            faultIs(LANDING, item + "001;b;h", 4);
            faultIs(LANDING, item + "111;b;h", 4);
            faultIs(LANDING, item + "999;b;h", 4);
            faultIs(LANDING, item + "1234567890", 4);
            faultIs(LANDING, item + "/", 2);
            faultIs(LANDING, item + ":", 2);
            faultIs(LANDING, item + "1/", 3);
            faultIs(LANDING, item + "1:", 3);
            faultIs(LANDING, item + "-1", 2);
        }
    }

    /** What the LANDING tells of that ITEM of its first CLAUSE of that letter. */
    private static int told(MonsterCot cot, int item) {
        int what = item % 3;
        return item < 3 ? cot.rule(what) : item < 6 ? cot.tome(0, what) : Due.houseOf(cot, 0, what);
    }

    private void numberIs(int item, String digits, boolean within) {
        String text = ITEMS[item] + digits + ";b;h";
        faultIs(LANDING, text, within ? NONE : 1 + digits.length());
        MonsterCot cot = new MonsterCot();
        due.is("text(0) of '" + text + "'", Due.keep(cot, LANDING, text) == NONE, !within);
        if (within) {
            due.is("what is told by '" + text + "'", told(cot, item), Integer.parseInt(digits));
        }
    }

    private void numbersWithinBounds() {
        for (int item = 0; item < ITEMS.length; item++) {
            due.part(ITEMS[item] + ": " + LOWEST[item] + " .. " + HIGHEST[item]);
            for (int number = 0; number < 100; number++) {
                boolean within = number >= LOWEST[item] && number <= HIGHEST[item];
                numberIs(item, "" + number, within);
                if (number < 10) {
                    numberIs(item, "0" + number, within);
                }
            }
        }
        due.part("the first number that is wrong");
        faultIs(LANDING, "bp0k4;h", 2);
        faultIs(LANDING, "bp1k4;h", 4);
        faultIs(LANDING, "bp0", 2);
        faultIs(LANDING, "bp00", 3);
        faultIs(LANDING, "b;hs41;hs0", 5);
    }

    private void usualNumbers() {
        MonsterCot cot = Due.cot("b;h", "");
        MonsterCot told = Due.cot("s;b;h", "");
        for (int item = 0; item < ITEMS.length; item++) {
            due.part(ITEMS[item] + ": " + USUAL[item] + " without");
            due.is("without s", told(cot, item), USUAL[item]);
            due.is("with s", told(told, item), USUAL[item]);
            MonsterCot again = Due.cot("sc1e2l3;bp1c1k1;hn1s1v1", "");
            Due.keep(again, LANDING, "b;h");
            due.is("behind another LANDING", told(again, item), USUAL[item]);
        }
    }

    /** Each beginning of a right TEXT is right or too short. */
    private void beginningsOf(int sort, String text, IntPredicate isRight) {
        for (int length = 0; length <= text.length(); length++) {
            faultIs(sort, text.substring(0, length), isRight.test(length) ? NONE : length);
        }
    }

    private void landingsThatEndTooEarly() {
        due.part("the length, if it ends too early");
        String text = "sc99e1l30;bp9c9k3;hn9s40v9";
        // Right as soon as its h stands, but not behind a letter that has no number yet.
        beginningsOf(LANDING, text, length -> length == 19 || length > 19 && text.charAt(length - 1) <= '9');
        beginningsOf(LANDING, "h;b;s", length -> length == 3 || length == 5);
        tooShort(LANDING, "bp1;h;  ");
        tooShort(LANDING, "bp1   ");
        tooShort(LANDING, "h;bp   ");
        tooShort(LANDING, "   ");
    }

    // ---- LAWS

    private void oneLawClauseAtLeast() {
        due.part("LAW: one CLAUSE at least");
        tooShort(LAW, "");
        tooShort(LAW, " ");
        faultIs(LAW, ";", 0);
        faultIs(LAW, ";y:1", 0);
        right(LAW, "y:1");
        tooShort(LAW, "y:1;");
        faultIs(LAW, "y:1;;y:1", 4);
        right(LAW, times("y:1", 60, ";"));
        due.is("as many as the TAPE has room for", times("y:1", 60, ";").length(), 239);
        for (int sign = 1; sign < 256; sign++) {
            faultIs(LAW, "" + (char) sign, sign == 'y' || sign == ' ' ? 1 : 0);
            faultIs(LAW, "y" + (char) sign, sign == ':' || sign == ' ' ? 2 : 1);
        }
    }

    private void oneToFourDigitsInLaws() {
        due.part("LAW: 1 to 4 digits");
        tooShort(LAW, "y:");
        for (String digits : new String[] {"0", "9", "00", "99", "000", "999", "0000", "9999"}) {
            right(LAW, "y:" + digits);
        }
        faultIs(LAW, "y:00000", 6);
        faultIs(LAW, "y:99999", 6);
        faultIs(LAW, "y:123456", 6);
        faultIs(LAW, "y:c=12345?1", 8);
        faultIs(LAW, "y:c=1?12345", 10);
        faultIs(LAW, "y:[12345]", 7);
        faultIs(LAW, "y:1 ", NONE);
    }

    private void atomsOfLaws() {
        due.part("LAW: ATOMS");
        for (int sign = 1; sign < 256; sign++) {
            boolean atom = "cvbpnt0123456789".indexOf(sign) >= 0;
            faultIs(LAW, "y:" + (char) sign, atom ? NONE : "([! ".indexOf(sign) >= 0 ? 3 : 2);
            // Behind a sign of a SUM no CONDITION can begin.
            faultIs(LAW, "y:1+" + (char) sign, atom ? NONE : "[ ".indexOf(sign) >= 0 ? 5 : 4);
            faultIs(LAW, "y:c=1?" + (char) sign, atom ? NONE : "[ ".indexOf(sign) >= 0 ? 7 : 6);
            boolean behind = "+-*/=<>;".indexOf(sign) >= 0;
            faultIs(LAW, "y:c" + (char) sign, sign == ' ' ? NONE : behind ? 4 : 3);
        }
    }

    /** So many of ! and ( by the bits, then of [, closed again as is due. */
    private static String nested(int units, int bits, int sums) {
        StringBuilder text = new StringBuilder("y:");
        StringBuilder closing = new StringBuilder();
        for (int i = 0; i < units; i++) {
            boolean round = (bits >> i & 1) != 0;
            text.append(round ? '(' : '!');
            closing.append(round ? ")" : "");
        }
        text.append(times("[", sums, "")).append('1').append(times("]", sums, ""));
        return text.append(units > 0 ? "=1" : "").append(closing).append(units > 0 ? "?1" : "").toString();
    }

    private void sixWithinOneAnother() {
        due.part("LAW: at most six of ( [ !");
        for (int units = 0; units <= 7; units++) {
            for (int bits = 0; bits < 1 << units; bits++) {
                for (int sums = 0; units + sums <= 7; sums++) {
                    faultIs(LAW, nested(units, bits, sums), units + sums <= 6 ? NONE : 8);
                }
            }
        }
        faultIs(LAW, "y:c=[[[[[[1]]]]]]?[[[[[[1]]]]]]", NONE);
        faultIs(LAW, "y:c=[[[[[[[1", 10);
        faultIs(LAW, "y:c=1?[[[[[[[1", 12);
        faultIs(LAW, "y:c=1&!!!!!!!c", 12);
        faultIs(LAW, "y:c=1|(((((((c", 12);
        faultIs(LAW, "y:1+1*[[[[[[[1", 12);
        right(LAW, "y:[1]+[1]*[1]-[1]/[1]+[1]+[1]+[1]");
        right(LAW, "y:!c=1&!c=1&!c=1&!c=1&!c=1&!c=1&!c=1?1");
        right(LAW, "y:(c=1)|(c=1)|(c=1)|(c=1)|(c=1)|(c=1)|(c=1)?1");
        right(LAW, "y:!!!!!!c=1?1;y:!!!!!!c=1?1");
        right(LAW, "y:((((((c=1)))))|(((((c=1))))))?1");
        faultIs(LAW, "y:((((((c=1)))))|((((((c=1)))))))?1", 22);
    }

    private void conditionsOfLaws() {
        due.part("LAW: ! or ( behind : has a CONDITION");
        tooShort(LAW, "y:!c=1");
        tooShort(LAW, "y:(c=1)");
        faultIs(LAW, "y:(c)", 4);
        faultIs(LAW, "y:(1+c)*2", 6);
        faultIs(LAW, "y:!c", 4);
        faultIs(LAW, "y:!c;", 4);
        faultIs(LAW, "y:(c=1);", 7);
        faultIs(LAW, "y:c=1;", 5);
        faultIs(LAW, "y:c?1", 3);
        faultIs(LAW, "y:c=v=b", 5);
        faultIs(LAW, "y:c=1?2?3", 7);
        faultIs(LAW, "y:c=1?2=3", 7);
        faultIs(LAW, "y:c)", 3);
        faultIs(LAW, "y:c]", 3);
        faultIs(LAW, "y:[c=1]?1", 4);
        faultIs(LAW, "y:(c=1]?1", 6);
    }

    private void lawsThatEndTooEarly() {
        due.part("LAW: the length, if it ends too early");
        String text = "y:!(c<[v+1]*2|t>9999)&b=0?p-1/n;y:c";
        beginningsOf(LAW, text, length -> length == 27 || length == 29 || length == 31 || length == 35);
        tooShort(LAW, "y:1+  ");
        tooShort(LAW, "y:[1  ");
        right(LAW, "y:1  ");
    }

    /** What a page of a BOOK adds to a CALM of 50 by that LAW. */
    private void worthIs(String law, int want) {
        MonsterCot cot = Due.cot("sc50;bp9c7k2;hv8", law);
        due.is("a page by " + law, cot.calms(0, 1) - 50, want);
    }

    private void numbersHeldBehindEachSign() {
        due.part("within -1,000,000 .. 1,000,000 behind each sign");
        // 9,999 by 100 and 99 are 999,999.
        String nearly = "[9999*100+99]";
        worthIs("y:1000*1000-" + nearly, 1);
        worthIs("y:1000*1000-1-" + nearly, 0);
        worthIs("y:1000*1000+1-" + nearly, 1);
        worthIs("y:" + nearly + "+1-" + nearly, 1);
        worthIs("y:" + nearly + "+2-" + nearly, 1);
        worthIs("y:1001*1000-" + nearly, 1);
        worthIs("y:9999*9999*9999*9999-" + nearly, 1);
        worthIs("y:[0-1000]*1000+" + nearly, -1);
        worthIs("y:[0-1000]*1000+1+" + nearly, 0);
        worthIs("y:[0-1000]*1000-1+" + nearly, -1);
        worthIs("y:0-" + nearly + "-1+" + nearly, -1);
        worthIs("y:0-" + nearly + "-2+" + nearly, -1);
        worthIs("y:[0-1001]*1000+" + nearly, -1);
        worthIs("y:9999*[0-9999]*9999-5+" + nearly, -1);
        worthIs("y:9999*[0-9999]*[0-9999]-" + nearly, 1);
        worthIs("y:9999*9999>" + nearly + "&9999*9999<1000*1000+1?1;y:2", 2);
        worthIs("y:9999*9999=1000*1000?1;y:2", 1);
        worthIs("y:9999*9999/1000-990", 10);
        worthIs("y:[0-9999]*9999/1000+1005", 5);
    }

    private void cutTowardsNought() {
        due.part("/ cuts towards 0, by 0 gives 0");
        worthIs("y:7/2", 3);
        worthIs("y:[0-7]/2", -3);
        worthIs("y:7/[0-2]", -3);
        worthIs("y:[0-7]/[0-2]", 3);
        worthIs("y:[0-1]/2+5", 5);
        worthIs("y:1/2+5", 5);
        worthIs("y:1/0+5", 5);
        worthIs("y:[0-9]/0+5", 5);
        worthIs("y:0/0+5", 5);
        worthIs("y:9/[c-7]+5", 5);
        worthIs("y:6/1", 6);
        worthIs("y:6/[0-1]", -6);
    }

    private void truths() {
        due.part("CONDITION: = < > ! & |");
        String[] units = {"c=8", "c=7"};
        for (int one = 0; one < 2; one++) {
            worthIs("y:" + units[one] + "?1;y:2", one == 1 ? 1 : 2);
            worthIs("y:!" + units[one] + "?1;y:2", one == 0 ? 1 : 2);
            for (int other = 0; other < 2; other++) {
                String both = units[one] + "&" + units[other];
                String either = units[one] + "|" + units[other];
                worthIs("y:" + both + "?1;y:2", one + other == 2 ? 1 : 2);
                worthIs("y:" + either + "?1;y:2", one + other > 0 ? 1 : 2);
                worthIs("y:!(" + both + ")?1;y:2", one + other == 2 ? 2 : 1);
                worthIs("y:!(" + either + ")?1;y:2", one + other > 0 ? 2 : 1);
                for (int third = 0; third < 2; third++) {
                    boolean truth = one + other == 2 || third == 1;
                    worthIs("y:" + both + "|" + units[third] + "?1;y:2", truth ? 1 : 2);
                    truth = third == 1 || one + other == 2;
                    worthIs("y:" + units[third] + "|" + both + "?1;y:2", truth ? 1 : 2);
                    truth = one + other > 0 && third == 1;
                    worthIs("y:(" + either + ")&" + units[third] + "?1;y:2", truth ? 1 : 2);
                }
            }
        }
        for (int number = 6; number <= 8; number++) {
            worthIs("y:c<" + number + "?1;y:2", 7 < number ? 1 : 2);
            worthIs("y:c>" + number + "?1;y:2", 7 > number ? 1 : 2);
            worthIs("y:c=" + number + "?1;y:2", 7 == number ? 1 : 2);
        }
        due.part("CONDITION: as deep as may be");
        String ahead = "c=0|c=7&(";
        worthIs("y:" + times(ahead, 6, "") + "c+0=7+0*1" + times(")", 6, "") + "?5;y:6", 5);
        worthIs("y:" + times(ahead, 6, "") + "c+0=8+0*1" + times(")", 6, "") + "?5;y:6", 6);
        // 1 and 2 by 3 is 7, 1 and 2 by that 15, 1 and 2 by that 31.
        worthIs("y:" + times(ahead, 3, "") + "1+2*[1+2*[1+2*[3]]]=31)))?5;y:6", 5);
        worthIs("y:" + times(ahead, 3, "") + "31=1+2*[1+2*[1+2*[3]]])))?5;y:6", 5);
        worthIs("y:63-1*[1+1*[1+1*[1+1*[1+1*[1+1*[50]]]]]]", 8);
        worthIs("y:!!!!!!c=7?5;y:6", 5);
        worthIs("y:!!!!!c=7?5;y:6", 6);
        due.part("CONDITION: below 0");
        worthIs("y:0-1<0?1;y:2", 1);
        worthIs("y:0>0-1?1;y:2", 1);
    }

    private void noughtWithoutClause() {
        due.part("WORTH: 0 without");
        worthIs("y:c=0?9", 0);
        worthIs("y:c=0?9;y:v=0?9;y:!c=7?9", 0);
        worthIs("y:c=0?9;y:4;y:5", 4);
        worthIs("y:c=7?0;y:5", 0);
    }

    // ---- WEEKS

    private void oneToSixteenSteps() {
        due.part("WEEK: 1 to 16 STEPS");
        tooShort(WEEK, "");
        tooShort(WEEK, "  ");
        faultIs(WEEK, ";n", 0);
        for (int many = 1; many <= 16; many++) {
            right(WEEK, times("n", many, ";"));
            MonsterCot cot = new MonsterCot();
            due.is("text(2)", Due.keep(cot, WEEK, times("r00", many, ";")), 0);
            due.is("the last STEP", cot.step(0, many - 1, 0), 0);
            due.is("none behind it", cot.step(0, many, 0), Due.HIDDEN);
        }
        for (int many = 1; many < 16; many++) {
            tooShort(WEEK, times("n", many, ";") + ";");
        }
        faultIs(WEEK, times("n", 16, ";") + ";", 31);
        faultIs(WEEK, times("n", 17, ";"), 31);
        faultIs(WEEK, times("r00", 17, ";"), 63);
        faultIs(WEEK, times("g0", 16, ";") + "  ;m", 49);
        faultIs(WEEK, times("m", 20, ";"), 31);
        faultIs(WEEK, "n;;n", 2);
        right(WEEK, times("k99", 16, " ; "));
    }

    private void digitsOfSteps() {
        due.part("WEEK: digits");
        for (char two : "rk".toCharArray()) {
            tooShort(WEEK, "" + two);
            tooShort(WEEK, two + "1");
            right(WEEK, two + "00");
            right(WEEK, two + "99");
            faultIs(WEEK, two + "123", 3);
            faultIs(WEEK, two + ";n", 1);
            faultIs(WEEK, two + "1;n", 2);
            faultIs(WEEK, two + "/1", 1);
            faultIs(WEEK, two + ":1", 1);
            faultIs(WEEK, two + "1/", 2);
            faultIs(WEEK, two + "1:", 2);
        }
        tooShort(WEEK, "g");
        right(WEEK, "g0");
        right(WEEK, "g9");
        faultIs(WEEK, "g12", 2);
        faultIs(WEEK, "g;n", 1);
        for (char none : "mn".toCharArray()) {
            right(WEEK, "" + none);
            faultIs(WEEK, none + "1", 1);
            faultIs(WEEK, "" + none + none, 1);
        }
        for (int sign = 1; sign < 256; sign++) {
            faultIs(WEEK, (char) sign + "", "mn".indexOf(sign) >= 0 ? NONE : "rkg ".indexOf(sign) >= 0 ? 1 : 0);
            faultIs(WEEK, "n" + (char) sign, sign == ' ' ? NONE : sign == ';' ? 2 : 1);
        }
    }

    private void stepsThatAreNotThere() {
        due.part("WEEK: what is not there is no FAULT");
        MonsterCot cot = Due.cot("b;h", "");
        for (String step : new String[] {"r11", "r05", "r00", "k01", "g1", "g0"}) {
            right(WEEK, step);
        }
        due.is("text(2)", Due.keep(cot, WEEK, "r11"), 0);
        due.is("text(2) again", Due.keep(cot, WEEK, "m;g9"), 1);
        due.is("the STEP can't be", cot.run(0, 0), 0);
        due.is("the second STEP can't be", cot.run(1, 0), 1);
    }

    // ---- blanks

    private static String spread(String text, String between) {
        StringBuilder wide = new StringBuilder(between);
        for (int i = 0; i < text.length(); i++) {
            wide.append(text.charAt(i)).append(between);
        }
        return wide.toString();
    }

    private void blanksBetweenSigns() {
        due.part("blanks between all signs");
        for (String blanks : new String[] {" ", "   "}) {
            right(LANDING, spread("sc1e2l3;bp4c5k3;hn7s8v9", blanks));
            right(LAW, spread("y:!(c<[v+1]*2|t>9)&b=0?p-1/n;y:c", blanks));
            right(WEEK, spread("r12;k34;m;n;g5", blanks));
        }
        MonsterCot cot = Due.cot(spread("sc1e2l3;bp4c5k3;hn7s8v9", " "), spread("y:c=5?9;y:1", " "));
        due.is("rule(0)", cot.rule(0), 1);
        due.is("house(0, 1)", Due.houseOf(cot, 0, 1), 8);
        due.is("calms(0, 1)", cot.calms(0, 1), 10);
        due.is("text(2)", Due.keep(cot, WEEK, " r 0 2 "), 0);
        due.is("both digits", cot.step(0, 0, 1) * 10 + cot.step(0, 0, 2), 2);
    }

    private void noBlanksWithinNumbers() {
        due.part("no blanks within numbers");
        faultIs(LANDING, "sc1 0;b;h", 4);
        faultIs(LANDING, "sc1  0;b;h", 5);
        faultIs(LANDING, "hs0 1;b", 2);
        faultIs(LAW, "y:1 0", 4);
        faultIs(LAW, "y:123 4", 6);
        faultIs(LAW, "y:c=1 0?1", 6);
        right(WEEK, "r1 0");
        right(WEEK, "r 1   0");
    }

    private void onlyBlanksAreBlanks() {
        due.part("blanks are 32 alone");
        for (int sign = 1; sign < 256; sign++) {
            if (sign <= 33 || sign >= 127) {
                boolean blank = sign == 32;
                faultIs(LANDING, "b" + (char) sign + ";h", blank ? NONE : 1);
                faultIs(LAW, "y" + (char) sign + ":1", blank ? NONE : 1);
                faultIs(WEEK, "r1" + (char) sign + "2", blank ? NONE : 2);
            }
        }
    }

    // ---- promises 2 to 5

    private void bytesOfFeed() {
        due.part("feed: the highest first, bytes of 0 left out");
        MonsterCot cot = new MonsterCot();
        due.is("none", cot.feed(0, 0, 0, 0, 0), 0);
        due.is("one of each number", cot.feed('y' << 24, ':' << 16, 'c' << 8, '+', 'v' << 24), 5);
        due.is("the LAW y:c+v", cot.fault(LAW), NONE);
        due.is("y:c+v has no WEEK", cot.fault(WEEK), 0);
        due.is("three bytes between 0", cot.feed('*' << 24 | '2', 0, '-' << 8, 0, 0), 8);
        due.is("y:c+v*2- is too short", cot.fault(LAW), 8);
        due.is("all twenty", cot.feed(-1, 0x80808080, 0x01010101, 0x7fffffff, 0xff00ff | 0x01000100), 28);
        due.is("the first byte of 255", cot.fault(LAW), 8);
        due.is("end(8)", cot.end(8), true);
        due.is("a digit", cot.feed(0, 0, 0, 0, '5'), 9);
        due.is("y:c+v*2-5", cot.text(LAW), 0);
        cot = new MonsterCot();
        due.is("the highest first", cot.feed('b' << 24 | ';' << 16 | 'h' << 8 | ';', 's' << 24, 0, 0, 0), 5);
        due.is("b;h;s", cot.fault(LANDING), NONE);
    }

    /** A new object with so many bytes of 'n' on its TAPE. */
    private static MonsterCot withTape(int many) {
        MonsterCot cot = new MonsterCot();
        Due.type(cot, times("n", many, ""));
        return cot;
    }

    /** So many bytes more, at most twenty, of byte 1. */
    private static int feedMany(MonsterCot cot, int many) {
        int[] five = new int[5];
        for (int i = 0; i < many; i++) {
            five[i / 4] |= 1 << i % 4 * 8;
        }
        return cot.feed(five[0], five[1], five[2], five[3], five[4]);
    }

    private void tapeOfNoneTo240() {
        due.part("feed: 240 at most");
        for (int more = 0; more <= 20; more++) {
            MonsterCot cot = withTape(240 - more);
            due.is(more + " to " + (240 - more), feedMany(cot, more), 240);
            due.is("count(4)", cot.count(4), 240);
            due.is("end(240)", cot.end(240), true);
        }
        for (int more = 1; more <= 20; more++) {
            MonsterCot cot = withTape(241 - more);
            due.is(more + " to " + (241 - more), feedMany(cot, more), NONE);
            due.is("count(4) as it was", cot.count(4), 241 - more);
            due.is("not even some of them", cot.end(242 - more), false);
            due.is("room for one less", feedMany(cot, more - 1), 240);
        }
        String full = times("y:1", 60, ";") + " ";
        MonsterCot cot = new MonsterCot();
        due.is("a LAW of 240 bytes", Due.type(cot, full), 240);
        due.is("feed to it", feedMany(cot, 1), NONE);
        due.is("still right", cot.fault(LAW), NONE);
        due.is("text(1)", cot.text(LAW), 0);
        due.is("room for twenty again", feedMany(cot, 20), 20);
    }

    private void endsOfTheTape() {
        due.part("end: the first n bytes alone");
        for (int size : new int[] {0, 1, 20, 240}) {
            for (int n : new int[] {-1, 0, 1, size - 1, size, size + 1, FAR[0], FAR[1]}) {
                MonsterCot cot = withTape(size);
                boolean can = n >= 0 && n <= size;
                due.is("end(" + n + ") of " + size, cot.end(n), can);
                due.is("count(4)", cot.count(4), can ? n : size);
            }
        }
        MonsterCot cot = new MonsterCot();
        Due.type(cot, "n;n;x");
        due.is("end(3)", cot.end(3), true);
        due.is("end(3) again", cot.end(3), true);
        due.is("end(5), they are gone", cot.end(5), false);
        due.is("n;n", cot.fault(WEEK), NONE);
        due.is("end(2)", cot.end(2), true);
        due.is("m more", cot.feed('m', 0, 0, 0, 0), 3);
        due.is("n;m", cot.text(WEEK), 0);
        due.is("m", cot.step(0, 1, 0), 2);
    }

    private void sortsOfFaults() {
        due.part("fault: sorts 0 .. 2");
        MonsterCot cot = new MonsterCot();
        Due.type(cot, "b;h");
        due.is("fault(0)", cot.fault(0), NONE);
        due.is("fault(1)", cot.fault(1), 0);
        due.is("fault(2)", cot.fault(2), 0);
        for (int sort : new int[] {-2, -1, 3, 4, FAR[0], FAR[1]}) {
            due.is("fault(" + sort + ")", cot.fault(sort), -2);
        }
        due.is("the TAPE is as it was", cot.count(4), 3);
        due.is("no LANDING by it", cot.count(0), 0);
        due.is("text(0)", cot.text(0), 1);
    }

    private void faultOfNothing() {
        due.part("fault of an empty TAPE");
        MonsterCot cot = new MonsterCot();
        for (int sort = 0; sort < 3; sort++) {
            due.is("fault(" + sort + ")", cot.fault(sort), 0);
            due.is("text(" + sort + ")", cot.text(sort), NONE);
        }
        due.is("no LANDING", cot.count(0) + cot.count(1) + cot.count(2) + cot.count(3), 0);
    }

    private void sortsOfTexts() {
        due.part("text: sorts 0 .. 2");
        String[] texts = {"b;h", "y:1", "m"};
        for (int right = 0; right < 3; right++) {
            for (int sort : new int[] {-2, -1, 0, 1, 2, 3, FAR[0], FAR[1]}) {
                MonsterCot cot = new MonsterCot();
                int want = sort != right ? NONE : sort == 0 ? 1 : 0;
                due.is("text(" + sort + ") of '" + texts[right] + "'", Due.keep(cot, sort, texts[right]), want);
                due.is("the TAPE", cot.count(4), want == NONE ? texts[right].length() : 0);
                int kept = cot.count(0) + cot.count(2) + cot.count(3);
                due.is("what is kept", kept, want == NONE ? 0 : 1);
            }
        }
    }

    private void fourLawsAndWeeks() {
        due.part("text: four LAWS, four WEEKS");
        MonsterCot cot = Due.cot("sc10;b;h", "");
        for (int i = 0; i < 4; i++) {
            due.is("a LAW", Due.keep(cot, LAW, "y:" + (i + 1)), i);
            due.is("LAWS", cot.count(2), i + 1);
            due.is("none more holds", cot.law(i + 1), false);
            due.is("a WEEK", Due.keep(cot, WEEK, "g" + i), i);
            due.is("WEEKS", cot.count(3), i + 1);
            due.is("none more is there", cot.step(i + 1, 0, 0), Due.HIDDEN);
        }
        due.is("a fifth LAW", Due.keep(cot, LAW, "y:9"), NONE);
        due.is("it is no FAULT", cot.fault(LAW), NONE);
        due.is("its TAPE", cot.count(4), 3);
        due.is("text(1) again", cot.text(LAW), NONE);
        due.is("four LAWS", cot.count(2), 4);
        due.is("a fifth WEEK", Due.keep(cot, WEEK, "m;m"), NONE);
        due.is("it is no FAULT, too", cot.fault(WEEK), NONE);
        due.is("its TAPE, too", cot.count(4), 3);
        due.is("four WEEKS", cot.count(3), 4);
        for (int i = 0; i < 4; i++) {
            due.is("law(" + i + ")", cot.law(i), true);
            due.is("it is as it was", cot.calms(0, 1), 11 + i);
            due.is("WEEK " + i, cot.step(i, 0, 0) * 10 + cot.step(i, 0, 1), 40 + i);
            due.is("a single STEP", cot.step(i, 1, 0), Due.HIDDEN);
        }
        due.is("another LANDING can still be", Due.keep(cot, LANDING, "b;h;h"), 2);
    }

    private void landingInsteadOfAnother() {
        due.part("text: all that was of another LANDING is gone");
        MonsterCot cot = Due.cot("sc9e8l30;bp9c8k3;bp2;hn9s8v7;h", "y:2");
        Due.keep(cot, WEEK, "n;m");
        cot.hush(3);
        cot.seen(0, 1, 0, 99, true);
        cot.read(0, 9, true);
        cot.voice(0, 1);
        cot.night();
        cot.night();
        cot.read(0, 8, false);
        cot.milk();
        cot.goes(1);
        cot.image();
        due.is("some slept, some lay AWAKE", cot.count(8) * 10 + cot.count(9), 92);
        due.is("a wrong one", Due.keep(cot, LANDING, "b;h;h;h;"), NONE);
        due.is("nothing is gone", cot.count(0) * 100 + cot.count(6) * 10 + cot.count(15), 227);
        due.is("nor what was SEEN", cot.count(13), 1);
        due.is("another one", Due.keep(cot, LANDING, "b;h"), 1);
        int[] counts = {1, 1, 1, 1, 0, 0, 0, 0, 0, 0, 0, 0, 3, 0, 0, 0};
        for (int what = 0; what < counts.length; what++) {
            due.is("count(" + what + ")", cot.count(what), counts[what]);
        }
        due.is("CALM", cot.rule(0), 10);
        due.is("the second BOOK", cot.tome(1, 0), NONE);
        due.is("READ", cot.tome(0, 3), 0);
        due.is("the second HOUSE", Due.houseOf(cot, 1, 0), Due.THROWN);
        due.is("VOICE", Due.houseOf(cot, 0, 2), 5);
        due.is("TIRED", Due.houseOf(cot, 0, 3), 0);
        due.is("TURNS", Due.houseOf(cot, 0, 4), 0);
        due.is("BORED", cot.bored(3), 0);
        due.is("undo()", cot.undo(), NONE);
        due.is("back()", cot.back(), NONE);
        due.is("log(0, 0)", cot.log(0, 0), NONE);
        due.is("likes(NONE)", cot.likes(NONE), 5);
        due.is("milk()", cot.milk(), 13);
        due.is("the LAW holds", cot.calms(0, 1), 15);
        due.is("the WEEK is there", cot.run(0, 0), NONE);
        due.is("the very same one again", Due.keep(cot, LANDING, "b;h"), 1);
        due.is("MILK is gone", cot.count(10), 0);
    }

    private void fewerThanAhead() {
        due.part("text: fewer BOOKS and HOUSES than the one ahead");
        MonsterCot cot = Due.cot("sc99;" + times("bp9c9k3", 6, ";") + ";" + times("hn9s40v9", 6, ";"), "");
        cot.night();
        due.is("text(0)", Due.keep(cot, LANDING, "sc0e99;bp1c0;hn0s1v0;hn0s1v0"), 2);
        for (int what : new int[] {0, 2, 3, 4, 5}) {
            due.is("all(" + what + ")", cot.all(what), 0);
        }
        due.is("OPEN", cot.all(7), 1);
        due.is("pages(3)", cot.pages(3), 0);
        due.is("pages(0)", cot.pages(0), 1);
        due.is("probe(0, 3)", cot.probe(0, 3), 0);
        due.is("probe(0, 10)", cot.probe(0, 10), 0);
        due.is("probe(0, 90)", cot.probe(0, 90), 0);
        due.is("best(1, 1)", cot.best(1, 1), 0);
        due.is("best(2, 0)", cot.best(2, 0), NONE);
        due.is("least(0)", cot.least(0), NONE);
        due.is("which(0, NONE)", cot.which(0, NONE), 2);
        due.is("roster(0, 0)", cot.roster(0, 0), 1);
        due.is("roster(0, 1)", cot.roster(0, 1), 0);
        due.is("where it is", cot.count(7), 0);
        cot.night();
        cot.night();
        due.is("round in two NIGHTS", cot.count(7), 0);
    }
}

/** How MonsterCot is used: README.md shows this file and what it prints. */
final class Bedtime {
    /** That text alone is on the tape then: four signs to a number, the first one highest, twenty to a call. */
    private static void type(MonsterCot cot, String text) {
        cot.end(0);
        for (int from = 0; from < text.length(); from += 20) {
            int[] five = new int[5];
            for (int i = from; i < Math.min(from + 20, text.length()); i++) {
                five[(i - from) / 4] |= text.charAt(i) << 24 - (i - from) % 4 * 8;
            }
            cot.feed(five[0], five[1], five[2], five[3], five[4]);
        }
    }

    private static void say(String what, int answer) {
        System.out.println(what + ": " + answer);
    }

    public static void main(String[] args) {
        MonsterCot cot = new MonsterCot();
        type(cot, "sc10e20l5; bp4c3; bp2c6k1; hn2s6v6; hn3s10v0");
        say("houses", cot.text(0));
        say("fewest pages by which all sleep", cot.least(0));
        say("of which book, and how many", cot.least(1));

        type(cot, "y: p>0 ? c; y: c*2+v/3");
        say("the law's number", cot.text(1));
        cot.law(0);
        say("calm behind two pages of book 1", cot.read(1, 2, false));
        say("book 1 can't be read twice a night", cot.read(1, 1, false));
        say("asleep in house 0", cot.night());

        type(cot, "r04; m; n; r14");
        say("the week's number", cot.text(2));
        say("its first step that can't be", cot.run(0, 0));
        say("steps done", cot.perform(0));
        say("slept in all", cot.count(8));
        say("acts that can still be undone", cot.undo());

        type(cot, "y: c >");
        say("where this law is wrong", cot.fault(1));
    }
}

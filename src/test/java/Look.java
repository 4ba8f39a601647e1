/** All that can be seen of an object, as one text; the object is used up by it (some 250 calls). */
final class Look {
    private final MonsterCot cot;
    private final StringBuilder all = new StringBuilder();

    private Look(MonsterCot cot) {
        this.cot = cot;
    }

    static String of(MonsterCot cot) {
        Look look = new Look(cot);
        look.now();
        look.log();
        look.weeks();
        look.whatIsFoundOut();
        look.tape();
        look.image();
        return look.all.toString();
    }

    private void part(String name) {
        all.append(' ').append(name);
    }

    private void see(int answer) {
        all.append(' ').append(answer);
    }

    private void now() {
        part("counts");
        for (int what = 0; what < 16; what++) {
            see(cot.count(what));
        }
        part("rules");
        for (int what = 0; what < 3; what++) {
            see(cot.rule(what));
        }
        part("books");
        for (int book = 0; book < cot.count(1); book++) {
            for (int what = 0; what < 4; what++) {
                see(cot.tome(book, what));
            }
        }
        part("houses");
        for (int house = 0; house < cot.count(0); house++) {
            for (int what = 0; what < 5; what++) {
                see(Due.houseOf(cot, house, what));
            }
        }
        part("bored");
        for (int kind = 0; kind < 4; kind++) {
            see(cot.bored(kind));
        }
    }

    /** The latest entries and the first ones. */
    private void log() {
        part("log");
        int size = cot.count(14);
        for (int i = 0; i < size; i++) {
            if (i < 3 || i >= size - 2) {
                for (int what = 0; what < 3; what++) {
                    see(cot.log(i, what));
                }
            }
        }
    }

    private void weeks() {
        part("weeks");
        for (int week = 0; week < cot.count(3); week++) {
            for (int i = 0; i < 16 && cot.step(week, i, 0) != Due.HIDDEN; i++) {
                see(cot.step(week, i, 0));
                see(cot.step(week, i, 1));
                see(cot.step(week, i, 2));
            }
        }
    }

    private void whatIsFoundOut() {
        part("likes");
        int many = cot.likes(Due.NONE);
        for (int i = 0; i < many; i++) {
            see(cot.likes(i));
        }
        part("laws");
        for (int law = Due.NONE; law < cot.count(2); law++) {
            cot.law(law);
            see(cot.calms(0, 1));
            see(cot.lasts(0));
        }
    }

    /** Where each beginning of the TAPE is wrong tells its signs. */
    private void tape() {
        part("tape");
        for (int size = Math.min(cot.count(4), 12); size >= 0; size--) {
            see(cot.fault(0));
            see(cot.fault(1));
            see(cot.fault(2));
            cot.end(size);
        }
    }

    /** What the ACTS were, one by one, and what was ahead of the IMAGE. */
    private void image() {
        part("acts");
        for (int acts = cot.undo(); acts != Due.NONE; acts = cot.undo()) {
            see(acts);
            see(cot.rule(0));
            see(cot.count(6));
        }
        part("at first");
        see(cot.count(14));
        see(cot.log(0, 1));
        see(cot.count(7));
        part("image");
        see(cot.back());
        for (int what = 6; what < 16; what++) {
            see(cot.count(what));
        }
        see(cot.rule(0));
        see(cot.log(0, 1));
        for (int house = 0; house < cot.count(0); house++) {
            see(Due.houseOf(cot, house, 2));
        }
    }
}

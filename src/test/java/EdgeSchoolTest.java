/** The edges of section 1 and of promises 1 to 8: a new object, questions, rooms, children, years. */
public final class EdgeSchoolTest {
    private static final Edge edge = new Edge("EdgeSchoolTest");

    public static void main(String[] args) {
        newObject();
        years();
        questionRanges();
        questionValues();
        roomsFull();
        childRanges();
        childTaken();
        childrenFull();
        learnRanges();
        learnIsNew();
        forgetRanges();
        forgetKnew();
        childIsRanges();
        childIsEmptyAndFull();
        edge.end();
    }

    private static void newObject() {
        edge.says(1, "RubbedSheets(): YEAR 0");
        edge.answers(States::fresh, 0, x -> x.count(8));
        edge.says(1, "no ROOMS");
        edge.answers(States::fresh, 0, x -> x.count(0));
        edge.refuses(States::fresh, Edge.BEYOND, x -> x.fills(0), x -> x.said(0, 0), x -> x.puts(0, 1),
                x -> x.measure(0, 0, 0), x -> x.string(0, 0, 2, 0), x -> x.odd(0, 0, 0, 0), x -> x.child(0, 0),
                x -> x.holds(0, 0, 0, 1), x -> x.gaps(0, 0, 1, 0), x -> x.could(0, 0, 1, 1), x -> x.check(0, 0, 0));
        edge.says(1, "no CHILDREN");
        edge.answers(States::fresh, 0, x -> x.count(1));
        edge.refuses(States::fresh, Edge.BEYOND, x -> x.learn(0, 0, true), x -> x.forget(0, 0), x -> x.childIs(0, 0),
                x -> x.sit(0, 0), x -> x.read(0, 0), x -> x.mark(0, 0, 0, 0), x -> x.copies(0, 0), x -> x.leaves(0),
                x -> x.bubble(0, 0, 0, 0), x -> x.sheetIs(0, 0, 0), x -> x.as(0, 0, 0, 0));
        edge.says(1, "no WAYS");
        edge.answers(States::fresh, 0, x -> x.count(4), x -> Due.way(x, "1"));
        edge.refuses(States::fresh, Edge.BEYOND, x -> x.judges(0, 0, 0), x -> x.says(0, 0, 0));
        edge.refuses(States::brim, Edge.BEYOND, x -> x.judges(6, 0, 0));
        edge.says(1, "THE TAPE is empty");
        edge.answers(States::fresh, 0, x -> x.count(7), x -> x.wipe());
        edge.answers(States::fresh, -1, x -> x.way());
        edge.answers(States::fresh, 4, x -> x.feed(0, 4));
        edge.says(1, "no image is kept");
        edge.refuses(States::fresh, Edge.NONE, x -> x.undo());
        edge.idles(States::fresh, 0, x -> x.tear());
        edge.says(1, "a new object has nothing else: no SHEETS, FORMS, keys, findings, nothing looked at");
        for (int what = 0; what <= 10; what++) {
            int w = what;
            edge.idles(States::fresh, 0, x -> x.count(w));
        }
        edge.idles(States::fresh, 0, x -> x.looked(), x -> x.status(-1), x -> x.status(6), x -> x.cheapest(0, 1));
        edge.refuses(States::fresh, Edge.NONE, x -> x.cheapest(1, 0), x -> x.line(0, 0, 0));
    }

    private static void years() {
        edge.says(0, "YEARS 0 to 5; the open one is 0 at first");
        RubbedSheets x = States.fresh();
        edge.is("at first", x.count(8), 0);
        for (int year = 1; year <= 5; year++) {
            edge.is("year()", x.year(), year);
            edge.is("the open one", x.count(8), year);
        }
        edge.says(8, "FULL: YEAR 5 is");
        edge.is("year() in YEAR 5", x.year(), Edge.FULL);
        edge.is("the open one stays", x.count(8), 5);
        edge.refuses(States::brim, Edge.FULL, x1 -> x1.year());
        edge.says(8, "The next YEAR is open: it has no SHEETS yet, and those of the YEAR ahead stay");
        RubbedSheets y = States.sheets("000000000000");
        y.year();
        edge.is("sheets of the open year", y.count(2), 0);
        edge.is("sheets of all", y.count(3), 1);
        edge.is("the old sheet", y.sheetIs(0, 0, 0), 12);
    }

    private static void questionRanges() {
        edge.says(0, "QUESTIONS 0 to 11");
        edge.lets(States::school, 0, 11, (x, v) -> x.question(v, 0, 0));
        edge.lets(States::school, 0, 11, (x, v) -> x.question(v, 1, 0));
        edge.says(2, "KEY (what 0), HARD (1): no other what");
        edge.lets(States::school, 0, 1, (x, v) -> x.question(0, v, 0));
        edge.says(0, "QUESTIONS have a KEY (0 to 3)");
        edge.lets(States::school, 0, 3, (x, v) -> x.question(0, 0, v));
        edge.lets(States::school, 0, 3, (x, v) -> x.question(11, 0, v));
        edge.says(0, "QUESTIONS are HARD (0 to 9)");
        edge.lets(States::school, 0, 9, (x, v) -> x.question(0, 1, v));
        edge.lets(States::school, 0, 9, (x, v) -> x.question(11, 1, v));
        edge.says(2, "BEYOND: v of the one what is none of the other");
        edge.refuses(States::school, Edge.BEYOND, x -> x.question(0, 0, 4), x -> x.question(0, 0, 9));
        edge.answers(States::school, 0, x -> x.question(0, 1, 4));
    }

    private static void questionValues() {
        edge.says(0, "a KEY is 0 at first, and so is HARD");
        for (int q = 0; q < 12; q++) {
            int at = q;
            edge.answers(States::fresh, 0, x -> x.question(at, 0, 3), x -> x.question(at, 1, 9));
        }
        edge.says(2, "becomes v: what it was");
        for (int q = 0; q < 12; q++) {
            RubbedSheets x = States.fresh();
            x.question(q, 0, 3);
            x.question(q, 1, 9);
            edge.is("KEY was", x.question(q, 0, 1), 3);
            edge.is("HARD was", x.question(q, 1, 0), 9);
            edge.is("KEY was, then", x.question(q, 0, 0), 1);
            edge.is("HARD was, then", x.question(q, 1, 0), 0);
            for (int other = 0; other < 12; other++) {
                edge.is("KEY of " + other + " beside " + q, x.question(other, 0, 0), 0);
                edge.is("HARD of " + other + " beside " + q, x.question(other, 1, 0), 0);
            }
        }
    }

    private static void roomsFull() {
        edge.says(0, "ROOMS 0, 1, .. (at most 6)");
        RubbedSheets x = States.fresh();
        for (int room = 0; room < 6; room++) {
            edge.is("room()", x.room(), room);
            edge.is("rooms", x.count(0), room + 1);
        }
        edge.says(3, "FULL");
        edge.is("seventh", x.room(), Edge.FULL);
        edge.is("rooms stay", x.count(0), 6);
        edge.refuses(States::brim, Edge.FULL, y -> y.room());
        edge.refuses(() -> States.rooms(6), Edge.FULL, y -> y.room());
    }

    private static void childRanges() {
        edge.says(4, "BEYOND: no such ROOM");
        edge.lets(() -> States.rooms(1), 0, 0, (x, v) -> x.child(v, 10));
        edge.lets(States::school, 0, 1, (x, v) -> x.child(v, 10));
        edge.lets(() -> States.rooms(6), 0, 5, (x, v) -> x.child(v, 10));
        edge.letsNoOther(States::fresh, 1, 0, (x, v) -> x.child(v, 10));
        edge.says(4, "BEYOND: no such SEAT (0 to 19)");
        edge.lets(() -> States.rooms(1), 0, 19, (x, v) -> x.child(0, v));
        edge.lets(() -> States.rooms(6), 0, 19, (x, v) -> x.child(5, v));
    }

    private static void childTaken() {
        edge.says(4, "STATE: the SEAT is taken");
        edge.refuses(States::school, Edge.STATE, x -> x.child(0, 0), x -> x.child(0, 1), x -> x.child(0, 2),
                x -> x.child(1, 19));
        edge.says(0, "SEATS are unlike in one ROOM (but not in two)");
        edge.answers(States::school, 4, x -> x.child(1, 0), x -> x.child(0, 19), x -> x.child(0, 3),
                x -> x.child(1, 18));
        RubbedSheets x = States.rooms(2);
        for (int seat = 0; seat < 20; seat++) {
            edge.is("seats of room 1", x.child(1, seat), seat);
        }
        edge.is("a seat of room 0", x.child(0, 19), 20);
        edge.is("room 1 has no more", x.child(1, 0), Edge.STATE);
    }

    private static void childrenFull() {
        edge.says(0, "CHILDREN 0, 1, .. (at most 24)");
        RubbedSheets x = States.rooms(2);
        for (int child = 0; child < 24; child++) {
            edge.is("child()", x.child(child / 20, child % 20), child);
            edge.is("children", x.count(1), child + 1);
        }
        edge.says(4, "FULL");
        edge.is("25th", x.child(1, 4), Edge.FULL);
        edge.is("children stay", x.count(1), 24);
        edge.refuses(States::brim, Edge.FULL, y -> y.child(4, 0), y -> y.child(0, 19), y -> y.child(3, 1));
        edge.says(4, "BEYOND is asked ahead of FULL");
        edge.refuses(States::brim, Edge.BEYOND, y -> y.child(6, 0), y -> y.child(-1, 0), y -> y.child(4, 20),
                y -> y.child(4, -1));
        edge.says(4, "STATE is asked ahead of FULL");
        edge.refuses(States::brim, Edge.STATE, y -> y.child(5, 0), y -> y.child(5, 19), y -> y.child(0, 0));
    }

    private static void learnRanges() {
        edge.says(5, "BEYOND: no such CHILD");
        edge.lets(States::school, 0, 3, (x, v) -> x.learn(v, 0, true));
        edge.lets(States::brim, 0, 23, (x, v) -> x.learn(v, 0, false));
        edge.letsNoOther(States::fresh, 1, 0, (x, v) -> x.learn(v, 0, false));
        edge.says(5, "BEYOND: no such QUESTION");
        edge.lets(States::school, 0, 11, (x, v) -> x.learn(0, v, true));
        edge.lets(States::brim, 0, 11, (x, v) -> x.learn(23, v, false));
    }

    private static void learnIsNew() {
        edge.says(5, "1 if either is new, else 0");
        for (int q = 0; q < 12; q++) {
            RubbedSheets x = States.children(1);
            edge.is("known is new", x.learn(0, q, false), 1);
            edge.is("known by now", x.learn(0, q, false), 0);
            edge.is("it is not taught", x.childIs(0, 3), 0);
            edge.is("taught is new", x.learn(0, q, true), 1);
            edge.is("taught by now", x.learn(0, q, true), 0);
            edge.is("known, not taught anew", x.learn(0, q, false), 0);
            edge.is("stays taught", x.childIs(0, 3), 1 << q);
            RubbedSheets y = States.children(1);
            edge.is("both are new", y.learn(0, q, true), 1);
            edge.is("knows", y.childIs(0, 2), 1 << q);
            edge.is("of that taught", y.childIs(0, 3), 1 << q);
        }
        edge.says(5, "A CHILD KNOWS a QUESTION: no other CHILD does");
        RubbedSheets x = States.children(3);
        x.learn(1, 11, true);
        edge.is("the one ahead", x.childIs(0, 2) + x.childIs(0, 3), 0);
        edge.is("the one behind", x.childIs(2, 2) + x.childIs(2, 3), 0);
        edge.says(5, "else 0: nothing is changed");
        edge.idles(States::school, 0, y -> y.learn(0, 3, true), y -> y.learn(0, 3, false), y -> y.learn(0, 4, false));
    }

    private static void forgetRanges() {
        edge.says(6, "BEYOND: no such CHILD");
        edge.lets(States::school, 0, 3, (x, v) -> x.forget(v, 0));
        edge.lets(States::brim, 0, 23, (x, v) -> x.forget(v, 0));
        edge.letsNoOther(States::fresh, 1, 0, (x, v) -> x.forget(v, 0));
        edge.says(6, "BEYOND: no such QUESTION");
        edge.lets(States::school, 0, 11, (x, v) -> x.forget(0, v));
        edge.lets(States::brim, 0, 11, (x, v) -> x.forget(23, v));
    }

    private static void forgetKnew() {
        edge.says(6, "1 if it knew it, else 0");
        edge.idles(States::school, 0, x -> x.forget(0, 0), x -> x.forget(0, 11), x -> x.forget(2, 3));
        edge.answers(States::school, 1, x -> x.forget(0, 3), x -> x.forget(0, 4));
        edge.says(6, "(and that it was TAUGHT)");
        for (int q = 0; q < 12; q++) {
            RubbedSheets x = States.children(1);
            for (int known = 0; known < 12; known++) {
                x.learn(0, known, true);
            }
            edge.is("forget", x.forget(0, q), 1);
            edge.is("knows the rest", x.childIs(0, 2), 4095 & ~(1 << q));
            edge.is("was taught the rest", x.childIs(0, 3), 4095 & ~(1 << q));
            edge.is("forget again", x.forget(0, q), 0);
            edge.is("learned anew, it is not taught", x.learn(0, q, false), 1);
            edge.is("so it is", x.childIs(0, 3), 4095 & ~(1 << q));
        }
    }

    private static void childIsRanges() {
        edge.says(7, "what 0 ROOM .. 4 how many SHEETS: no other what");
        edge.lets(States::school, 0, 4, (x, v) -> x.childIs(0, v));
        edge.lets(States::brim, 0, 4, (x, v) -> x.childIs(23, v));
        edge.says(7, "BEYOND: no such CHILD");
        edge.lets(States::school, 0, 3, (x, v) -> x.childIs(v, 0));
        edge.lets(States::brim, 0, 23, (x, v) -> x.childIs(v, 4));
        edge.letsNoOther(States::fresh, 1, 0, (x, v) -> x.childIs(v, 0));
    }

    private static void childIsEmptyAndFull() {
        edge.says(0, "CHILDREN KNOW some QUESTIONS (none at first)");
        edge.answers(() -> States.children(2), 0, x -> x.childIs(1, 2), x -> x.childIs(1, 3));
        edge.says(7, "what it KNOWS, of that TAUGHT, as sets: all of them");
        RubbedSheets x = States.children(2);
        for (int q = 0; q < 12; q++) {
            x.learn(1, q, q % 2 == 1);
        }
        edge.is("knows all", x.childIs(1, 2), 4095);
        edge.is("taught half", x.childIs(1, 3), 0b101010101010);
        edge.says(7, "how many SHEETS: from none to one of each YEAR");
        RubbedSheets y = States.children(2);
        for (int year = 0; year <= 5; year++) {
            edge.is("ahead of the test", y.childIs(1, 4), year);
            y.sit(1, year);
            edge.is("behind the test", y.childIs(1, 4), year + 1);
            edge.is("of the other child", y.childIs(0, 4), 0);
            y.year();
        }
        y.leaves(1);
        edge.is("one less", y.childIs(1, 4), 5);
        edge.says(7, "ROOM and SEAT at their edges");
        edge.answers(States::brim, 5, z -> z.childIs(0, 0), z -> z.childIs(19, 0));
        edge.answers(States::brim, 19, z -> z.childIs(19, 1));
        edge.answers(States::brim, 0, z -> z.childIs(0, 1), z -> z.childIs(20, 0), z -> z.childIs(23, 1));
        edge.answers(States::brim, 3, z -> z.childIs(23, 0));
    }
}

import java.util.List;

/** The edges of promises 40 to 44: images, what they keep and don't, counts, status. */
public final class EdgeImagesTest {
    private static final Edge edge = new Edge("EdgeImagesTest");

    public static void main(String[] args) {
        imageOfEverything();
        imageKeepsNot();
        undoRefused();
        undoLatest();
        undoBackAndForth();
        tear();
        countRanges();
        countEmptyAndFull();
        statusRanges();
        statusOfEach();
        edge.end();
    }

    private static void isSame(String what, List<String> got, List<String> want) {
        for (int i = 0; i < Math.max(got.size(), want.size()); i++) {
            String one = i < got.size() ? got.get(i) : "nothing";
            String other = i < want.size() ? want.get(i) : "nothing";
            edge.is(what + ": " + one + ", due is " + other, one.equals(other) ? 1 : 0, 1);
        }
    }

    /** An object whose image was made with it: its undo() tells the same that it tells itself. */
    private static void comesBack(String what, Edge.Made made, Edge.Call... calls) {
        for (int i = 0; i < calls.length; i++) {
            RubbedSheets ahead = made.make();
            ahead.image();
            RubbedSheets behind = made.make();
            edge.is("image()", behind.image(), 1);
            calls[i].on(behind);
            edge.is("undo()", behind.undo(), ahead.count(8));
            isSame(what + " " + i, Seen.rest(behind), Seen.rest(ahead));
        }
    }

    private static void imageOfEverything() {
        edge.says(40, "All that sections 1 to 6 tell is kept: section 1, YEARS, QUESTIONS, ROOMS, CHILDREN");
        comesBack("section 1", States::school, x -> x.year(), x -> x.question(0, 0, 3), x -> x.question(11, 0, 3),
                x -> x.question(0, 1, 9), x -> x.question(11, 1, 9), x -> x.room(), x -> x.child(0, 3), x -> x.child(1, 0),
                x -> x.learn(0, 0, true), x -> x.learn(0, 4, true), x -> x.learn(3, 11, false), x -> x.forget(0, 3));
        edge.says(40, "All that sections 1 to 6 tell is kept: section 2, SHEETS, choices, HANDS, what is RUBBED");
        comesBack("section 2", States::school, x -> x.sit(1, 1), x -> x.sit(2, 1), x -> x.read(2, 0),
                x -> x.mark(0, 0, 7, 3), x -> x.mark(0, 11, 7, -1), x -> x.mark(3, 11, 7, 3), x -> x.said(0, 3),
                x -> x.puts(0, 99), x -> x.fills(0), x -> x.fills(1), x -> x.leaves(0), x -> x.leaves(3),
                x -> x.leaves(0) + x.sit(0, 55));
        edge.says(40, "All that sections 1 to 6 tell is kept: section 4, WAYS");
        comesBack("section 4", States::school, x -> Due.way(x, "size+99") + x.feed('f' << 16 | 'i' << 8 | 't', 3));
        edge.says(40, "All that sections 1 to 6 tell is kept: section 5, keys");
        comesBack("section 5", States::school, x -> x.holds(9, 0, 0, 99), x -> x.holds(0, 1, 98, 99));
        edge.says(40, "All that sections 1 to 6 tell is kept: section 6, FORMS");
        comesBack("section 6", States::school, x -> x.form(0, 255), x -> x.form(99, 0));
        edge.says(40, "All that is at its limit is kept");
        comesBack("the brim", States::brim, x -> x.question(11, 0, 3) + x.learn(23, 11, true) + x.mark(23, 11, 7, -1)
                + x.leaves(0) + x.sit(22, 9));
        edge.says(40, "1: of an empty object, too");
        comesBack("nothing", States::fresh, x -> x.room(), x -> x.year(), x -> x.form(1, 1), x -> x.question(5, 1, 5));
    }

    private static void imageKeepsNot() {
        edge.says(40, "(THE TAPE not)");
        RubbedSheets x = States.school();
        x.image();
        x.wipe();
        Due.feed(x, "size");
        x.undo();
        edge.is("its bytes", x.count(7), 4);
        edge.is("are a way", x.way(), 2);
        edge.is("that tells the size", x.says(2, 0, 0), 2);
        x.undo();
        edge.is("it stays empty", x.count(7), 0);
        edge.says(40, "sections 1 to 6: the slips of section 7 not");
        RubbedSheets y = States.school();
        y.image();
        y.slip(0, 8, 0);
        y.slip(1, 0, 0);
        y.slip(2, 32, 12);
        y.write(2, 0, 3);
        y.slip(3, 16, 24);
        y.undo();
        edge.is("slip 0 has none", y.write(0, 0, 0), Edge.BEYOND);
        edge.is("slip 1 is MISSING", y.write(1, 0, 0), Edge.MISSING);
        edge.is("slip 2 has 12", y.read(2, 2) >= 0 ? y.bubble(2, 1, 0, 0) : -9, 3);
        edge.is("slip 3 has 24", y.write(3, 23, 0), 1);
        edge.says(40, "sections 1 to 6: neither what was looked at nor status()");
        RubbedSheets z = States.school();
        z.image();
        int found = z.status(-1);
        z.measure(0, 0, 0);
        z.measure(0, 0, 9);
        z.undo();
        edge.is("looked()", z.looked(), 2);
        edge.is("status(-1)", z.status(-1), found + 1);
    }

    private static void undoRefused() {
        edge.says(41, "NONE: nothing is kept");
        edge.refuses(States::fresh, Edge.NONE, x -> x.undo());
        edge.refuses(() -> States.sheets("012301230123"), Edge.NONE, x -> x.undo());
        edge.refuses(() -> {
            RubbedSheets x = States.school();
            x.tear();
            return x;
        }, Edge.NONE, x -> x.undo());
    }

    private static void undoLatest() {
        edge.says(41, "what was kept latest");
        RubbedSheets x = States.fresh();
        x.image();
        x.year();
        x.image();
        x.year();
        x.image();
        x.year();
        edge.is("the third image", x.undo(), 2);
        edge.says(41, "(which stays)");
        x.year();
        edge.is("once more", x.undo(), 2);
        edge.is("and once more", x.undo(), 2);
        edge.says(41, "the open YEAR: from 0 to 5");
        for (int open = 0; open <= 5; open++) {
            RubbedSheets y = States.fresh();
            for (int year = 0; year < open; year++) {
                y.year();
            }
            y.image();
            y.year();
            edge.is("undo()", y.undo(), open);
            edge.is("count(8)", y.count(8), open);
        }
        edge.says(41, "It becomes what was kept: what is changed then does not change what is kept");
        RubbedSheets z = States.sheets("000000000000");
        z.image();
        z.undo();
        z.mark(0, 0, 5, 3);
        z.question(1, 0, 2);
        z.learn(0, 0, true);
        z.undo();
        edge.choices(z, 0, 0, "000000000000");
        edge.is("nothing is PUT", z.sheetIs(0, 0, 6), 0);
        edge.is("all are RIGHT", z.sheetIs(0, 0, 0), 12);
        edge.is("knows", z.childIs(0, 2), 0);
    }

    private static void undoBackAndForth() {
        edge.says(41, "what came behind the image is no more, and leaves nothing in what bears its number then");
        RubbedSheets x = States.rooms(1);
        x.image();
        x.child(0, 0);
        x.learn(0, 5, true);
        x.sit(0, 1);
        x.mark(0, 0, 5, 0);
        Due.way(x, "9999");
        x.form(1, 255);
        x.holds(0, 0, 0, 99);
        x.room();
        x.undo();
        edge.is("no CHILD", x.childIs(0, 0), Edge.BEYOND);
        edge.is("no second ROOM", x.fills(1), Edge.BEYOND);
        edge.is("no WAY", x.judges(0, 0, 0), Edge.BEYOND);
        edge.is("no FORM", x.cheapest(1, 0), Edge.NONE);
        edge.is("no keys", x.gaps(0, 0, 99, 0), 99);
        edge.is("the CHILD's number", x.child(0, 7), 0);
        edge.is("knows", x.childIs(0, 2) + x.childIs(0, 3), 0);
        edge.is("has", x.childIs(0, 4), 0);
        edge.is("there is no SHEET", x.sheetIs(0, 0, 0), Edge.NONE);
        edge.is("a new SHEET", Due.read(x, 0, "............"), 0);
        edge.rubbed(x, 0, 0, 0, 0, 0);
        edge.kinds(x, 0, 0, "000000000000");
        edge.is("the WAY's number", Due.way(x, "7"), 0);
        edge.is("its own TEXT", x.says(0, 0, 0), 7);
        edge.is("the FORM's number", x.form(2, 8), 0);
        edge.is("its own bars", x.cheapest(16, 0), Edge.NONE);
        edge.is("the first that HOLDS", x.holds(1, 0, 1, 2), 1);
        edge.says(41, "from empty to full and back: there is room again");
        RubbedSheets y = States.fresh();
        y.image();
        for (int turn = 0; turn < 3; turn++) {
            for (int room = 0; room < 6; room++) {
                edge.is("room()", y.room(), room);
            }
            edge.is("full", y.room(), Edge.FULL);
            for (int form = 0; form < 8; form++) {
                edge.is("form()", y.form(0, 0), form);
            }
            edge.is("full", y.form(0, 0), Edge.FULL);
            edge.is("undo()", y.undo(), 0);
            edge.is("empty", y.count(0) + y.count(5), 0);
        }
    }

    private static void tear() {
        edge.says(42, "1 if something was, else 0");
        RubbedSheets x = States.fresh();
        edge.is("at first", x.tear(), 0);
        x.image();
        x.image();
        edge.is("behind two images", x.tear(), 1);
        edge.is("again", x.tear(), 0);
        edge.idles(() -> States.sheets("000000000000"), 0, y -> y.tear());
        edge.says(42, "Nothing is kept: undo tells NONE, and nothing else is changed");
        edge.is("undo", x.undo(), Edge.NONE);
        RubbedSheets y = States.school();
        y.tear();
        edge.choices(y, 0, 0, "30.1.0000300");
        edge.is("count", y.count(3), 5);
        edge.is("year", y.count(8), 1);
        edge.says(42, "Nothing is kept: till the next image");
        x.year();
        edge.is("image", x.image(), 1);
        x.year();
        edge.is("undo", x.undo(), 1);
        edge.is("tear", x.tear(), 1);
        edge.says(42, "undo leaves what is kept: it can be torn then");
        RubbedSheets z = States.fresh();
        z.image();
        z.undo();
        edge.is("tear", z.tear(), 1);
    }

    private static void countRanges() {
        edge.says(43, "BEYOND: another what (than 0 to 10)");
        edge.lets(States::school, 0, 10, (x, v) -> x.count(v));
        edge.lets(States::fresh, 0, 10, (x, v) -> x.count(v));
        edge.lets(States::brim, 0, 10, (x, v) -> x.count(v));
    }

    private static void counts(String what, Edge.Made made, int... wants) {
        for (int i = 0; i < wants.length; i++) {
            int w = i;
            edge.says(43, what + " of count " + i);
            edge.idles(made, wants[i], x -> x.count(w));
        }
    }

    private static void countEmptyAndFull() {
        counts("nothing", States::fresh, 0, 0, 0, 0, 0, 0, 0, 0, 0, 0, 0);
        counts("some", States::school, 2, 4, 2, 5, 2, 2, 2, 3, 1);
        counts("all", States::brim, 6, 24, 2, 12, 6, 8, 30, 100, 5);
        edge.says(43, "9 choices on all SHEETS, 10 RIGHT ones: none, all");
        edge.answers(() -> States.sheets("............"), 0, x -> x.count(9), x -> x.count(10));
        edge.answers(() -> States.sheets("123123123123"), 12, x -> x.count(9));
        edge.answers(() -> States.sheets("123123123123"), 0, x -> x.count(10));
        edge.answers(() -> States.sheets("000000000000", "000000000000"), 24, x -> x.count(9), x -> x.count(10));
        edge.says(43, "9 choices on all SHEETS, 10 RIGHT ones: of all YEARS");
        RubbedSheets x = States.sheets("000000......", "1...........");
        x.year();
        Due.read(x, 1, "00..........");
        edge.is("choices", x.count(9), 9);
        edge.is("RIGHT ones", x.count(10), 8);
        edge.says(43, "2 SHEETS of the open YEAR, 3 of all YEARS: as many as there can be");
        RubbedSheets y = States.rooms(6);
        for (int child = 0; child < 24; child++) {
            y.child(child % 6, child / 6);
        }
        for (int year = 0; year <= 5; year++) {
            for (int child = 0; child < 24; child++) {
                y.sit(child, child * 31 + year);
            }
            edge.is("of the open YEAR", y.count(2), 24);
            edge.is("of all", y.count(3), 24 * (year + 1));
            y.year();
        }
    }

    private static void statusRanges() {
        edge.says(44, "which -1: all, 0 to 6: BEYOND to SIZE. BEYOND: another one");
        edge.lets(States::school, -1, 6, (x, v) -> x.status(v));
        edge.lets(States::fresh, -1, 6, (x, v) -> x.status(v));
        edge.says(44, "(this one not): status() of what is let in counts nothing");
        edge.idles(States::school, 1, x -> x.status(-1), x -> x.status(0));
        edge.idles(States::fresh, 0, x -> x.status(-1), x -> x.status(0), x -> x.status(6));
        edge.says(44, "BEYOND (counted from then on)");
        RubbedSheets x = States.fresh();
        edge.is("which 7", x.status(7), Edge.BEYOND);
        edge.is("BEYOND", x.status(0), 1);
        edge.is("which -2", x.status(-2), Edge.BEYOND);
        edge.is("all", x.status(-1), 2);
        edge.is("BEYOND", x.status(0), 2);
    }

    /** Each of the findings by an act of its own, and how often each was told by then. */
    private static void statusOfEach() {
        edge.says(44, "How many acts answered a finding ever: each by itself");
        RubbedSheets x = States.brim();
        x.slip(1, 16, 5);
        x.slip(2, 0, 0);
        int[] ahead = Seen.status(x);
        edge.is("none yet", ahead[0], 0);
        x.sit(24, 0);
        x.room();
        x.room();
        for (int n = 0; n < 3; n++) {
            x.copy(0, 0, 1, 0, 0);
        }
        for (int n = 0; n < 4; n++) {
            x.leaves(1);
        }
        for (int n = 0; n < 5; n++) {
            x.sit(0, 0);
        }
        for (int n = 0; n < 6; n++) {
            x.write(2, 0, 0);
        }
        for (int n = 0; n < 7; n++) {
            x.slip(0, 8, -1);
        }
        for (int which = 0; which <= 6; which++) {
            edge.is("status(" + which + ")", x.status(which), which + 1);
        }
        edge.is("status(-1)", x.status(-1), 28);
        edge.says(44, "ever: undo, tear, wipe and a new image don't matter");
        x.undo();
        x.wipe();
        x.image();
        x.tear();
        edge.is("status(-1)", x.status(-1), 28);
        edge.is("status(6)", x.status(6), 7);
    }
}

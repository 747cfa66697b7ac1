/** The edges of section 2 and of promises 9 to 16: tests that are sat or read, hands, sheets that go. */
public final class EdgeHandsTest {
    private static final Edge edge = new Edge("EdgeHandsTest");

    public static void main(String[] args) {
        sheetOfAChildAndAYear();
        rightAsNow();
        marksNothing();
        rubbings();
        sitRefused();
        sitByKnowledge();
        sitByLots();
        readRefused();
        readOrder();
        readRows();
        markRanges();
        markRefused();
        copiesRefused();
        copiesNeighbours();
        copiesChoices();
        said();
        putsRanges();
        putsTheFirst();
        putsNoBlank();
        fills();
        leaves();
        edge.end();
    }

    /** Child 0 has a sheet with a right, a wrong and a blank bubble at 0, 1 and 2. */
    private static RubbedSheets rightWrongBlank() {
        return States.sheets("01.000000000");
    }

    private static RubbedSheets noneSat() {
        RubbedSheets x = States.school();
        x.leaves(0);
        x.leaves(3);
        return x;
    }

    private static RubbedSheets allSat() {
        RubbedSheets x = States.school();
        x.sit(1, 3);
        x.sit(2, 4);
        return x;
    }

    private static RubbedSheets allSlips() {
        RubbedSheets x = States.school();
        for (int s = 0; s < 4; s++) {
            x.slip(s, 8, 12);
        }
        return x;
    }

    private static void sheetOfAChildAndAYear() {
        edge.says(0, "A SHEET is of a CHILD and a YEAR (one at most)");
        RubbedSheets x = States.children(2);
        for (int year = 0; year <= 5; year++) {
            edge.is("the first of the year", x.sit(1, year) >= 0 ? 1 : 0, 1);
            edge.is("a second by sit", x.sit(1, year), Edge.STATE);
            edge.is("a second by read", Due.read(x, 1, "000000000000"), Edge.STATE);
            edge.is("sheets of the year", x.count(2), 1);
            edge.is("sheets of all", x.count(3), year + 1);
            x.year();
        }
        edge.says(0, "the kind of the HAND by which it is so (0 if none ever marked it)");
        RubbedSheets y = States.sheets("............");
        edge.kinds(y, 0, 0, "000000000000");
        edge.says(0, "a choice (0 to 3) or BLANK (-1): BLANK by a HAND has that HAND's kind");
        RubbedSheets z = rightWrongBlank();
        z.mark(0, 0, 6, -1);
        edge.is("the kind of the blank", z.bubble(0, 0, 0, 1), 6);
        edge.is("it is blank", z.bubble(0, 0, 0, 0), -1);
    }

    private static void rightAsNow() {
        edge.says(0, "RIGHT is a choice that is the KEY (as now)");
        RubbedSheets x = States.sheets("012300000000");
        edge.is("by the first keys", x.sheetIs(0, 0, 0), 9);
        for (int q = 0; q < 4; q++) {
            x.question(q, 0, q);
        }
        edge.is("by the later keys", x.sheetIs(0, 0, 0), 12);
        for (int q = 0; q < 12; q++) {
            x.question(q, 0, 3);
        }
        edge.is("one is left", x.sheetIs(0, 0, 0), 1);
        edge.is("of all", x.count(10), 1);
        edge.says(0, "BLANK is never RIGHT");
        RubbedSheets y = States.sheets("............");
        for (int key = 0; key <= 3; key++) {
            y.question(0, 0, key);
            edge.is("blank with KEY " + key, y.bubble(0, 0, 0, 2), 0);
            edge.is("none is right", y.sheetIs(0, 0, 0), 0);
        }
    }

    private static void marksNothing() {
        edge.says(0, "if it is so by now, nothing happens");
        for (int kind = 0; kind < 8; kind++) {
            int k = kind;
            edge.idles(EdgeHandsTest::rightWrongBlank, 0, x -> x.mark(0, 0, k, 0), x -> x.mark(0, 1, k, 1));
        }
        edge.says(0, "if it is so by now, nothing happens: BLANK, too");
        for (int kind = 0; kind < 8; kind++) {
            int k = kind;
            edge.idles(EdgeHandsTest::rightWrongBlank, 0, x -> x.mark(0, 2, k, -1));
        }
    }

    private static void rubbing(String what, int q, int choice, int wr, int rw, int ww) {
        RubbedSheets x = rightWrongBlank();
        edge.is(what, x.mark(0, q, 5, choice), 1);
        edge.rubbed(x, 0, 0, wr, rw, ww);
        edge.is(what + ": the kind", x.bubble(0, 0, q, 1), 5);
        edge.is(what + ": the choice", x.bubble(0, 0, q, 0), choice);
    }

    private static void rubbings() {
        edge.says(0, "RUBBED: wrong to right");
        rubbing("wrong to right", 1, 0, 1, 0, 0);
        edge.says(0, "RUBBED: wrong to right (the KEY as now)");
        RubbedSheets x = rightWrongBlank();
        x.question(0, 0, 3);
        edge.is("0 is wrong now", x.mark(0, 0, 0, 3), 1);
        edge.rubbed(x, 0, 0, 1, 0, 0);
        x.question(0, 0, 1);
        edge.rubbed(x, 0, 0, 1, 0, 0);
        edge.is("3 is wrong now", x.mark(0, 0, 0, 0), 1);
        edge.rubbed(x, 0, 0, 1, 0, 1);
        edge.says(0, "RUBBED: right to wrong");
        rubbing("right to wrong", 0, 3, 0, 1, 0);
        edge.says(0, "RUBBED: right to wrong (to BLANK, too)");
        rubbing("right to blank", 0, -1, 0, 1, 0);
        edge.says(0, "RUBBED: wrong to wrong");
        rubbing("wrong to wrong", 1, 2, 0, 0, 1);
        edge.says(0, "RUBBED: wrong to wrong (to BLANK, too)");
        rubbing("wrong to blank", 1, -1, 0, 0, 1);
        edge.says(0, "if there was a choice, that one is RUBBED: if there was none, nothing is");
        rubbing("blank to right", 2, 0, 0, 0, 0);
        rubbing("blank to wrong", 2, 3, 0, 0, 0);
    }

    private static void sitRefused() {
        edge.says(9, "BEYOND");
        edge.lets(EdgeHandsTest::noneSat, 0, 3, (x, v) -> x.sit(v, 5));
        edge.letsNoOther(States::brim, 0, 23, (x, v) -> x.sit(v, 5));
        edge.letsNoOther(States::fresh, 1, 0, (x, v) -> x.sit(v, 5));
        edge.says(9, "STATE: it has a SHEET of the open YEAR");
        edge.refuses(States::school, Edge.STATE, x -> x.sit(0, 5), x -> x.sit(3, 9));
        edge.refuses(States::brim, Edge.STATE, x -> x.sit(23, 65));
        edge.says(9, "a SHEET of another YEAR, or one that is no more, is none of the open YEAR");
        RubbedSheets x = States.school();
        edge.is("child 1 has one of year 0", x.sit(1, 5) >= 0 ? 1 : 0, 1);
        edge.is("child 2 has none", x.sit(2, 5) >= 0 ? 1 : 0, 1);
        x.leaves(1);
        edge.is("child 1 again", x.sit(1, 5) >= 0 ? 1 : 0, 1);
    }

    private static void sitByKnowledge() {
        edge.says(9, "how many are RIGHT: all");
        RubbedSheets x = States.children(1);
        for (int q = 0; q < 12; q++) {
            x.question(q, 0, q % 4);
            x.learn(0, q, q >= 6);
        }
        edge.is("all are known", x.sit(0, 123), 12);
        edge.choices(x, 0, 0, "012301230123");
        edge.says(0, "what it was TAUGHT by TAUGHT, else what it KNOWS by OWN");
        edge.kinds(x, 0, 0, "111111222222");
        edge.says(9, "how many are RIGHT: none");
        RubbedSheets y = States.children(1);
        for (int q = 0; q < 12; q++) {
            y.question(q, 0, 3);
        }
        edge.is("none is", y.sit(0, 2), 0);
        edge.choices(y, 0, 0, "122200100.0.");
        edge.says(0, "TO SIT a test: nothing is RUBBED");
        edge.rubbed(x, 0, 0, 0, 0, 0);
        edge.rubbed(y, 0, 0, 0, 0, 0);
    }

    private static void byLots(int lots, String row) {
        RubbedSheets x = States.children(1);
        x.sit(0, lots);
        edge.choices(x, 0, 0, row);
        edge.kinds(x, 0, 0, row.replaceAll("[0-3]", "7").replace('.', '0'));
    }

    /** The rows were worked out apart, by whole numbers that don't go round. */
    private static void sitByLots() {
        edge.says(0, "LOTS (an int L) .. an int that goes round");
        byLots(0, "0110300.00.2");
        byLots(1, "3133.03201.2");
        byLots(-1, "2.213.310.32");
        byLots(Integer.MAX_VALUE, ".2031103221.");
        byLots(Integer.MIN_VALUE, "333212312310");
        byLots(Integer.MIN_VALUE + 1, "1310120.2.20");
        edge.says(0, "the rest of L's highest 16 bits by 5 (from 0 to 65535, none below 0)");
        byLots(-1933012729, "00320..123..");
        byLots(560173319, "2121..11.31.");
        byLots(214470919, "330.2223.012");
        byLots(-131231481, "...31.210320");
        byLots(-1241607929, ".2103.312233");
        byLots(-1587310329, "0...12.32031");
        edge.says(0, "the choice, by GUESS (4: BLANK, no HAND)");
        byLots(1324847367, "3032021.2213");
        byLots(979144967, ".210.0222011");
        byLots(633442567, "0.03232.332.");
        edge.says(0, "else L becomes ..: what it KNOWS takes no lot");
        RubbedSheets x = States.children(1);
        x.learn(0, 0, false);
        x.learn(0, 11, true);
        x.sit(0, 1);
        edge.choices(x, 0, 0, "03133.032010");
        edge.kinds(x, 0, 0, "177770777772");
    }

    private static RubbedSheets withSlip(int bits, int n) {
        RubbedSheets x = States.school();
        x.slip(1, bits, n);
        return x;
    }

    private static void readRefused() {
        edge.says(10, "BEYOND: no such CHILD");
        edge.lets(EdgeHandsTest::noneSat, 0, 3, (x, v) -> x.read(v, 0));
        edge.letsNoOther(States::fresh, 1, 0, (x, v) -> x.read(v, 0));
        edge.says(10, "BEYOND: no such slip");
        edge.lets(EdgeHandsTest::allSlips, 0, 3, (x, v) -> x.read(2, v));
        edge.says(10, "MISSING");
        edge.refuses(States::school, Edge.MISSING, x -> x.read(2, 3));
        edge.refuses(() -> States.children(1), Edge.MISSING, x -> x.read(0, 0), x -> x.read(0, 3));
        edge.says(10, "SIZE: it has not 12");
        for (int n : new int[] {0, 1, 11, 13, 24}) {
            edge.refuses(() -> withSlip(8, n), Edge.SIZE, x -> x.read(2, 1));
        }
        for (int bits : new int[] {8, 16, 32}) {
            edge.answers(() -> withSlip(bits, 12), 10, x -> x.read(2, 1));
        }
        edge.says(10, "BEYOND: a number isn't -1 to 3");
        for (int i = 0; i < 12; i++) {
            int at = i;
            edge.answers(() -> withSlip(32, 12), 1, x -> x.write(1, at, 4));
            for (int v : new int[] {-2, 4, 127, -128, 256, 65536, Integer.MIN_VALUE, Integer.MAX_VALUE}) {
                edge.refuses(() -> withNumber(at, v), Edge.BEYOND, x -> x.read(2, 1));
            }
            for (int v = -1; v <= 3; v++) {
                RubbedSheets x = withNumber(i, v);
                edge.is("number " + v, x.read(2, 1) >= 9 ? 1 : 0, 1);
                edge.is("its bubble", x.bubble(2, 1, i, 0), v);
            }
        }
        edge.says(10, "STATE: it has a SHEET of the open YEAR");
        edge.refuses(States::school, Edge.STATE, x -> x.read(0, 0), x -> x.read(3, 0));
        edge.answers(States::school, Due.read(States.school(), 2, "11....22..30"), x -> x.read(1, 0));
    }

    private static RubbedSheets withNumber(int i, int v) {
        RubbedSheets x = withSlip(32, 12);
        x.write(1, i, v);
        return x;
    }

    private static void readOrder() {
        edge.says(10, "BEYOND (CHILD, slip) is asked ahead of MISSING");
        edge.refuses(States::school, Edge.BEYOND, x -> x.read(4, 3), x -> x.read(-1, 3));
        edge.says(10, "BEYOND (CHILD) is asked ahead of SIZE");
        edge.refuses(States::school, Edge.BEYOND, x -> x.read(4, 1));
        edge.says(10, "MISSING is asked ahead of STATE");
        edge.refuses(States::school, Edge.MISSING, x -> x.read(0, 3));
        edge.says(10, "SIZE is asked ahead of BEYOND (a number)");
        edge.refuses(() -> {
            RubbedSheets x = withSlip(8, 13);
            x.write(1, 0, 4);
            return x;
        }, Edge.SIZE, x -> x.read(2, 1));
        edge.says(10, "SIZE is asked ahead of STATE");
        edge.refuses(States::school, Edge.SIZE, x -> x.read(0, 1), x -> x.read(0, 2));
        edge.says(10, "BEYOND (a number) is asked ahead of STATE");
        edge.refuses(() -> withNumber(11, 4), Edge.BEYOND, x -> x.read(0, 1));
    }

    private static void readRows() {
        edge.says(10, "how many are RIGHT: from none to all");
        RubbedSheets x = States.children(3);
        edge.is("all", Due.read(x, 0, "000000000000"), 12);
        edge.is("none", Due.read(x, 1, "123123123123"), 0);
        edge.is("none of blanks", Due.read(x, 2, "............"), 0);
        edge.is("three sheets", x.count(2), 3);
        edge.says(10, "(by HAND, what isn't BLANK)");
        edge.kinds(x, 1, 0, "000000000000");
        edge.kinds(x, 2, 0, "000000000000");
        edge.choices(x, 1, 0, "123123123123");
        edge.choices(x, 2, 0, "............");
        edge.says(10, "A SHEET as a slip tells: nothing is RUBBED");
        edge.rubbed(x, 1, 0, 0, 0, 0);
        edge.says(10, "A SHEET as a slip tells: the slip stays, and the SHEET stays when the slip changes");
        RubbedSheets y = States.children(2);
        y.slip(0, 8, 12);
        edge.is("read", y.read(0, 0), 12);
        y.write(0, 0, 1);
        edge.is("the sheet stays", y.sheetIs(0, 0, 0), 12);
        edge.is("read for another", y.read(1, 0), 11);
        y.mark(1, 1, 0, 3);
        edge.answers(States::school, 1, z -> {
            z.read(2, 0);
            z.mark(2, 0, 0, 3);
            return z.read(1, 0) >= 0 ? z.bubble(1, 1, 0, 0) : -9;
        });
    }

    private static void markRanges() {
        edge.says(11, "BEYOND: no such CHILD");
        edge.lets(EdgeHandsTest::allSat, 0, 3, (x, v) -> x.mark(v, 0, 0, 0));
        edge.letsNoOther(States::brim, 0, 23, (x, v) -> x.mark(v, 0, 0, 0));
        edge.letsNoOther(States::fresh, 1, 0, (x, v) -> x.mark(v, 0, 0, 0));
        edge.says(11, "BEYOND: no such QUESTION");
        edge.lets(States::school, 0, 11, (x, v) -> x.mark(0, v, 0, 0));
        edge.lets(States::brim, 0, 11, (x, v) -> x.mark(23, v, 0, 0));
        edge.says(11, "BEYOND: no such kind (0 to 7)");
        edge.lets(States::school, 0, 7, (x, v) -> x.mark(0, 0, v, 0));
        edge.says(11, "BEYOND: no such choice (-1: BLANK, to 3)");
        edge.lets(States::school, -1, 3, (x, v) -> x.mark(0, 0, 0, v));
        edge.lets(States::brim, -1, 3, (x, v) -> x.mark(23, 11, 7, v));
        edge.says(11, "1 if something happens: the last QUESTION of the last CHILD, too");
        RubbedSheets x = States.brim();
        x.mark(23, 11, 0, 3);
        edge.is("3 to blank", x.mark(23, 11, 7, -1), 1);
        edge.is("blank to 3", x.mark(23, 11, 7, 3), 1);
        edge.is("3 to 3", x.mark(23, 11, 6, 3), 0);
        edge.is("the kind", x.bubble(23, 5, 11, 1), 7);
    }

    private static void markRefused() {
        edge.says(11, "STATE: there is no such SHEET");
        edge.refuses(States::school, Edge.STATE, x -> x.mark(1, 0, 0, 0), x -> x.mark(2, 0, 0, 0));
        edge.refuses(States::brim, Edge.STATE, x -> x.mark(1, 0, 0, 0), x -> x.mark(22, 11, 7, 3));
        edge.refuses(() -> {
            RubbedSheets x = States.school();
            x.leaves(0);
            return x;
        }, Edge.STATE, x -> x.mark(0, 0, 0, 0));
        edge.says(11, "BEYOND is asked ahead of STATE");
        edge.refuses(States::school, Edge.BEYOND, x -> x.mark(2, 12, 0, 0), x -> x.mark(2, -1, 0, 0),
                x -> x.mark(2, 0, 8, 0), x -> x.mark(2, 0, -1, 0), x -> x.mark(2, 0, 0, 4), x -> x.mark(2, 0, 0, -2));
        edge.says(11, "of the open YEAR: that of the YEAR ahead stays");
        RubbedSheets x = States.school();
        x.mark(0, 0, 6, 2);
        edge.choices(x, 0, 0, "30.1.0000300");
    }

    private static void copiesRefused() {
        edge.says(12, "BEYOND: no such CHILD");
        edge.letsNoOther(EdgeHandsTest::allSat, 0, 3, (x, v) -> x.copies(v, 1));
        edge.letsNoOther(EdgeHandsTest::allSat, 0, 3, (x, v) -> x.copies(1, v));
        edge.lets(() -> States.sheets("0...........", "1..........."), 0, 1, (x, v) -> x.copies(v, 1 - v));
        edge.letsNoOther(States::fresh, 1, 0, (x, v) -> x.copies(v, v));
        edge.says(12, "STATE: one has no SHEET of the open YEAR");
        edge.refuses(States::school, Edge.STATE, x -> x.copies(0, 1), x -> x.copies(1, 0), x -> x.copies(1, 2));
        edge.says(12, "STATE: they are not of one ROOM");
        edge.refuses(EdgeHandsTest::inTwoRooms, Edge.STATE, x -> x.copies(0, 1), x -> x.copies(1, 0),
                x -> x.copies(0, 2), x -> x.copies(2, 0));
        edge.says(12, "STATE: their SEATS are not 1 apart");
        edge.refuses(EdgeHandsTest::farApart, Edge.STATE, x -> x.copies(0, 1), x -> x.copies(1, 0),
                x -> x.copies(0, 2), x -> x.copies(2, 0));
        edge.says(12, "STATE: (or it is itself)");
        edge.refuses(EdgeHandsTest::farApart, Edge.STATE, x -> x.copies(0, 0), x -> x.copies(2, 2));
        edge.says(12, "BEYOND is asked ahead of STATE");
        edge.refuses(States::school, Edge.BEYOND, x -> x.copies(1, 4), x -> x.copies(4, 1), x -> x.copies(1, -1));
    }

    /** Child 0 on seat 5 of room 0, children 1 and 2 on seats 6 and 5 of room 1, all with sheets. */
    private static RubbedSheets inTwoRooms() {
        RubbedSheets x = States.rooms(2);
        x.child(0, 5);
        x.child(1, 6);
        x.child(1, 5);
        for (int child = 0; child < 3; child++) {
            x.sit(child, child);
        }
        return x;
    }

    /** Children 0, 1 and 2 on seats 0, 2 and 19 of one room, all with sheets. */
    private static RubbedSheets farApart() {
        RubbedSheets x = States.rooms(1);
        x.child(0, 0);
        x.child(0, 2);
        x.child(0, 19);
        for (int child = 0; child < 3; child++) {
            x.sit(child, child);
        }
        return x;
    }

    private static void copiesNeighbours() {
        edge.says(12, "SEATS 1 apart, on either side, at both ends of the row");
        for (int seat : new int[] {0, 9, 18}) {
            RubbedSheets x = States.rooms(1);
            x.child(0, seat);
            x.child(0, seat + 1);
            Due.read(x, 0, "000000000000");
            Due.read(x, 1, "111111111111");
            edge.is("from one up", x.copies(0, 1), 12);
            edge.choices(x, 0, 0, "111111111111");
            edge.rubbed(x, 0, 0, 0, 12, 0);
            edge.rubbed(x, 1, 0, 0, 0, 0);
            x.mark(0, 3, 0, 2);
            edge.is("from one down", x.copies(1, 0), 1);
            edge.choices(x, 1, 0, "111211111111");
        }
    }

    private static void copiesChoices() {
        edge.says(12, "each QUESTION for which that one has a choice: none of a BLANK SHEET");
        edge.idles(() -> States.sheets("0123.0123.01", "............"), 0, x -> x.copies(0, 1));
        edge.says(12, "each QUESTION for which that one has a choice: all of a full one");
        RubbedSheets x = States.sheets("............", "012301230123");
        edge.is("all", x.copies(0, 1), 12);
        edge.choices(x, 0, 0, "012301230123");
        edge.kinds(x, 0, 0, "333333333333");
        edge.rubbed(x, 0, 0, 0, 0, 0);
        edge.says(12, "how many are MARKED: what is so by now is not");
        edge.idles(() -> States.sheets("0123.0123.01", "0123.0123.01"), 0, y -> y.copies(0, 1));
        edge.says(12, "by COPIED: what is so by now, and where that one is BLANK, keeps its HAND");
        RubbedSheets y = States.sheets("00..00001111", "10.1..0011..");
        edge.is("two", y.copies(0, 1), 2);
        edge.choices(y, 0, 0, "10.100001111");
        edge.kinds(y, 0, 0, "300300000000");
        edge.choices(y, 1, 0, "10.1..0011..");
    }

    private static void said() {
        edge.says(13, "BEYOND: no such ROOM");
        edge.lets(States::school, 0, 1, (x, v) -> x.said(v, 0));
        edge.lets(States::brim, 0, 5, (x, v) -> x.said(v, 0));
        edge.letsNoOther(States::fresh, 1, 0, (x, v) -> x.said(v, 0));
        edge.says(13, "BEYOND: no such QUESTION");
        edge.lets(States::school, 0, 11, (x, v) -> x.said(0, v));
        edge.lets(States::brim, 0, 11, (x, v) -> x.said(5, v));
        edge.says(13, "each SHEET of the open YEAR: a ROOM without any");
        edge.idles(States::brim, 0, x -> x.said(4, 0), x -> x.said(1, 11));
        edge.says(13, "each SHEET of the open YEAR: those of other YEARS and ROOMS stay");
        RubbedSheets x = States.sheets("111111111111", "111111111111");
        x.room();
        x.child(1, 0);
        Due.read(x, 2, "111111111111");
        edge.is("both of room 0", x.said(0, 11), 2);
        edge.choices(x, 0, 0, "111111111110");
        edge.choices(x, 1, 0, "111111111110");
        edge.choices(x, 2, 0, "111111111111");
        x.year();
        edge.idles(() -> {
            RubbedSheets y = States.sheets("111111111111");
            y.year();
            return y;
        }, 0, y -> y.said(0, 0));
        edge.says(13, "by SAID: BLANK is MARKED, what is so by now is not");
        RubbedSheets z = States.sheets("0...........", "............", "1...........");
        edge.is("two are", z.said(0, 0), 2);
        edge.kinds(z, 0, 0, "000000000000");
        edge.kinds(z, 1, 0, "400000000000");
        edge.kinds(z, 2, 0, "400000000000");
        edge.rubbed(z, 1, 0, 0, 0, 0);
        edge.rubbed(z, 2, 0, 1, 0, 0);
        edge.is("none is", z.said(0, 0), 0);
    }

    private static void putsRanges() {
        edge.says(14, "BEYOND: no such ROOM");
        edge.lets(States::school, 0, 1, (x, v) -> x.puts(v, 1));
        edge.lets(States::brim, 0, 5, (x, v) -> x.puts(v, 1));
        edge.letsNoOther(States::fresh, 1, 0, (x, v) -> x.puts(v, 1));
        edge.says(14, "n (1 to 99)");
        edge.lets(States::school, 1, 99, (x, v) -> x.puts(0, v));
        edge.lets(States::brim, 1, 99, (x, v) -> x.puts(5, v));
    }

    /** Nine children with twelve wrong choices each: 108 of them. */
    private static RubbedSheets allWrong() {
        RubbedSheets x = States.children(9);
        x.slip(0, 8, 12);
        for (int q = 0; q < 12; q++) {
            x.write(0, q, 1 + q % 3);
        }
        for (int child = 0; child < 9; child++) {
            x.read(child, 0);
        }
        return x;
    }

    private static void putsTheFirst() {
        edge.says(14, "the first n: one");
        RubbedSheets x = allWrong();
        edge.is("one", x.puts(0, 1), 1);
        edge.choices(x, 0, 0, "023123123123");
        edge.kinds(x, 0, 0, "500000000000");
        edge.choices(x, 1, 0, "123123123123");
        edge.says(14, "the first n: a SHEET's twelve, and one more");
        RubbedSheets y = allWrong();
        edge.is("twelve", y.puts(0, 12), 12);
        edge.choices(y, 0, 0, "000000000000");
        edge.choices(y, 1, 0, "123123123123");
        RubbedSheets z = allWrong();
        edge.is("thirteen", z.puts(0, 13), 13);
        edge.choices(z, 1, 0, "023123123123");
        edge.says(14, "the first n: 99 of 108");
        RubbedSheets most = allWrong();
        edge.is("99", most.puts(0, 99), 99);
        edge.choices(most, 7, 0, "000000000000");
        edge.choices(most, 8, 0, "000123123123");
        edge.rubbed(most, 8, 0, 3, 0, 0);
        edge.is("the other nine", most.puts(0, 99), 9);
        edge.is("no more", most.puts(0, 99), 0);
        edge.says(14, "how many are: fewer than n, if there are no more");
        edge.answers(() -> States.sheets("100000000001"), 2, w -> w.puts(0, 2), w -> w.puts(0, 3), w -> w.puts(0, 99));
        edge.answers(() -> States.sheets("100000000001"), 1, w -> w.puts(0, 1));
    }

    private static void putsNoBlank() {
        edge.says(14, "Of the wrong choices: BLANK is none, and a right one is none");
        edge.idles(() -> States.sheets("0.0000000..0"), 0, x -> x.puts(0, 99));
        edge.says(14, "on SHEETS of a ROOM of the open YEAR: there are none");
        edge.idles(States::brim, 0, x -> x.puts(4, 99), x -> x.puts(2, 1));
        edge.idles(() -> {
            RubbedSheets x = States.sheets("111111111111");
            x.year();
            return x;
        }, 0, x -> x.puts(0, 99));
        edge.says(14, "by CHILDREN, then QUESTIONS (not by SEATS)");
        RubbedSheets x = States.rooms(2);
        x.child(0, 19);
        x.child(1, 0);
        x.child(0, 0);
        Due.read(x, 0, "000000000001");
        Due.read(x, 1, "111111111111");
        Due.read(x, 2, "100000000000");
        edge.is("the first", x.puts(0, 1), 1);
        edge.choices(x, 0, 0, "000000000000");
        edge.choices(x, 1, 0, "111111111111");
        edge.choices(x, 2, 0, "100000000000");
    }

    private static void fills() {
        edge.says(15, "BEYOND");
        edge.lets(States::school, 0, 1, (x, v) -> x.fills(v));
        edge.lets(States::brim, 0, 5, (x, v) -> x.fills(v));
        edge.letsNoOther(States::fresh, 1, 0, (x, v) -> x.fills(v));
        edge.says(15, "Each BLANK: all of a SHEET, of each SHEET of the ROOM");
        RubbedSheets x = States.sheets("............", "1..........3", "............");
        x.question(11, 0, 2);
        edge.is("34", x.fills(0), 34);
        edge.choices(x, 0, 0, "000000000002");
        edge.choices(x, 1, 0, "100000000003");
        edge.kinds(x, 0, 0, "666666666666");
        edge.kinds(x, 1, 0, "066666666660");
        edge.rubbed(x, 0, 0, 0, 0, 0);
        edge.says(15, "Each BLANK: there is none");
        edge.idles(() -> States.sheets("123000000000"), 0, y -> y.fills(0));
        edge.says(15, "on these: of other YEARS and ROOMS there is none");
        edge.idles(States::brim, 0, y -> y.fills(4), y -> y.fills(1));
        edge.idles(() -> {
            RubbedSheets y = States.sheets("............");
            y.year();
            y.room();
            return y;
        }, 0, y -> y.fills(0), y -> y.fills(1));
    }

    private static void leaves() {
        edge.says(16, "BEYOND");
        edge.lets(EdgeHandsTest::allSat, 0, 3, (x, v) -> x.leaves(v));
        edge.letsNoOther(States::brim, 0, 23, (x, v) -> x.leaves(v));
        edge.letsNoOther(States::fresh, 1, 0, (x, v) -> x.leaves(v));
        edge.says(16, "NONE: there is none");
        edge.refuses(States::school, Edge.NONE, x -> x.leaves(1), x -> x.leaves(2));
        edge.refuses(States::brim, Edge.NONE, x -> x.leaves(22));
        edge.says(16, "how many were RIGHT: from none to all");
        edge.answers(() -> States.sheets("111111111111", "............", "000000000000"), 0,
                x -> x.leaves(0), x -> x.leaves(1));
        edge.answers(() -> States.sheets("111111111111", "............", "000000000000"), 12, x -> x.leaves(2));
        edge.says(16, "is no more");
        RubbedSheets x = States.sheets("100000000000", "000000000000");
        x.mark(0, 0, 5, 0);
        x.mark(0, 1, 6, 1);
        x.mark(0, 11, 7, -1);
        edge.is("leaves", x.leaves(0), 10);
        edge.is("leaves again", x.leaves(0), Edge.NONE);
        edge.is("nor can it be marked", x.mark(0, 0, 0, 1), Edge.STATE);
        edge.is("one is left", x.count(2), 1);
        edge.is("its choices don't count", x.count(9), 12);
        edge.is("nor right ones", x.count(10), 12);
        edge.is("nor what was rubbed", x.measure(0, 0, 0), 0);
        edge.says(16, "is no more: a later one of that YEAR that is read has nothing of it");
        edge.is("a new one", Due.read(x, 0, "0..........."), 1);
        edge.choices(x, 0, 0, "0...........");
        edge.rubbed(x, 0, 0, 0, 0, 0);
        edge.kinds(x, 0, 0, "000000000000");
        edge.says(16, "is no more: a later one of that YEAR that is sat has nothing of it");
        for (int q = 0; q < 12; q++) {
            x.mark(0, q, 6, 3);
        }
        x.leaves(0);
        x.sit(0, -131231481);
        edge.choices(x, 0, 0, "...31.210320");
        edge.rubbed(x, 0, 0, 0, 0, 0);
        edge.kinds(x, 0, 0, "000770777777");
        edge.says(16, "of the open YEAR: that of the YEAR ahead stays");
        RubbedSheets y = States.school();
        edge.is("leaves", y.leaves(0) >= 0 ? 1 : 0, 1);
        edge.is("of year 0", y.childIs(0, 4), 1);
        edge.is("again", y.leaves(0), Edge.NONE);
        edge.choices(y, 0, 0, "30.1.0000300");
    }
}

/** The edges of section 3 and of promises 21 to 24: measures, strings, how odd a room is. */
public final class EdgeRoomsTest {
    private static final Edge edge = new Edge("EdgeRoomsTest");

    public static void main(String[] args) {
        measureRanges();
        measureSheets();
        row();
        fall();
        looked();
        stringRanges();
        stringOfNone();
        stringOfAtLeastK();
        stringLengths();
        stringTies();
        oddRanges();
        odd();
        edge.end();
    }

    private static void measureRanges() {
        edge.says(21, "BEYOND: no such ROOM");
        edge.lets(States::school, 0, 1, (x, v) -> x.measure(v, 0, 0));
        edge.letsNoOther(States::brim, 0, 5, (x, v) -> x.measure(v, 5, 0));
        edge.letsNoOther(States::fresh, 1, 0, (x, v) -> x.measure(v, 0, 0));
        edge.says(21, "BEYOND: no such YEAR");
        edge.lets(States::brim, 0, 5, (x, v) -> x.measure(5, v, 0));
        edge.letsNoOther(States::school, 0, 5, (x, v) -> x.measure(0, v, 0));
        edge.says(21, "A MEASURE (0 to 6)");
        edge.lets(States::school, 0, 6, (x, v) -> x.measure(0, 0, v));
        edge.lets(States::brim, 0, 6, (x, v) -> x.measure(5, 5, v));
        edge.says(21, "NONE: it has no SHEETS of that YEAR");
        edge.refuses(States::school, Edge.NONE, x -> x.measure(0, 2, 0), x -> x.measure(1, 5, 6));
        edge.refuses(States::brim, Edge.NONE, x -> x.measure(4, 0, 0), x -> x.measure(1, 5, 5));
        edge.refuses(() -> States.children(1), Edge.NONE, x -> x.measure(0, 0, 0));
        edge.refuses(() -> {
            RubbedSheets x = States.sheets("000000000000");
            x.leaves(0);
            return x;
        }, Edge.NONE, x -> x.measure(0, 0, 5));
        edge.says(21, "BEYOND is asked ahead of NONE");
        edge.refuses(States::school, Edge.BEYOND, x -> x.measure(0, 2, 7), x -> x.measure(0, 2, -1));
    }

    private static void measures(RubbedSheets x, int room, int year, int... wants) {
        for (int m = 0; m < wants.length; m++) {
            edge.is("measure " + m + " of room " + room, x.measure(room, year, m), wants[m]);
        }
    }

    private static void measureSheets() {
        edge.says(0, "MEASURES by all SHEETS of its CHILDREN of that YEAR: one that has nothing");
        measures(States.sheets("............"), 0, 0, 0, 0, 0, 0, 0, 1, 0);
        edge.says(0, "MEASURES by all SHEETS of its CHILDREN of that YEAR: of no other ROOM or YEAR");
        RubbedSheets x = States.rooms(2);
        x.child(0, 0);
        x.child(1, 0);
        x.child(0, 1);
        for (int child = 0; child < 3; child++) {
            Due.read(x, child, "110000000000");
            x.mark(child, 0, 5, 0);
            x.mark(child, 2, 0, 1);
        }
        x.question(0, 1, 1);
        measures(x, 0, 0, 2, 2, 0, 4, 0, 2, 2);
        measures(x, 1, 0, 1, 1, 0, 2, 0, 1, 1);
        x.year();
        Due.read(x, 0, "000000000000");
        measures(x, 0, 0, 2, 2, 0, 4, -2, 2, 2);
        measures(x, 0, 1, 0, 0, 0, 0, 0, 1, 0);
        edge.says(0, "SIZE how many SHEETS: up to 20");
        RubbedSheets y = States.children(20);
        for (int child = 0; child < 20; child++) {
            y.sit(child, child);
            edge.is("SIZE", y.measure(0, 0, 5), child + 1);
        }
    }

    private static void row() {
        edge.says(0, "ROW the length of its STRING of 3: two alike are too few");
        String row = "012301230123";
        edge.is("two", States.sheets(row, row).measure(0, 0, 2), 0);
        edge.says(0, "ROW the length of its STRING of 3: three are enough");
        edge.is("three", States.sheets(row, row, row).measure(0, 0, 2), 12);
        edge.is("three and one", States.sheets(row, row, row, "333333333333").measure(0, 0, 2), 12);
        edge.is("four, of less", States.sheets(row, row, "01230123....", "0123........").measure(0, 0, 2), 8);
    }

    private static void fall() {
        edge.says(0, "FALL: (0 for YEAR 5)");
        RubbedSheets x = States.children(1);
        for (int year = 0; year < 5; year++) {
            Due.read(x, 0, year % 2 == 0 ? "000000000000" : "111111111111");
            x.year();
        }
        Due.read(x, 0, "111111111111");
        for (int year = 0; year < 5; year++) {
            edge.is("FALL of YEAR " + year, x.measure(0, year, 4), year % 2 == 0 ? 12 : -12);
        }
        edge.is("FALL of YEAR 5", x.measure(0, 5, 4), 0);
        edge.says(0, "FALL: (0 for YEAR 5), though the next CHILD has a SHEET of YEAR 0");
        RubbedSheets y = States.children(2);
        Due.read(y, 1, "111111111111");
        for (int year = 0; year < 5; year++) {
            y.year();
        }
        Due.read(y, 0, "000000000000");
        edge.is("FALL of YEAR 5", y.measure(0, 5, 4), 0);
        edge.says(0, "FALL: of CHILDREN with SHEETS of that YEAR and the next one");
        RubbedSheets z = States.sheets("000000000000", "000000000000");
        z.child(0, 2);
        edge.is("none has one of the next YEAR", z.measure(0, 0, 4), 0);
        z.year();
        Due.read(z, 1, "000000001111");
        Due.read(z, 2, "111111111111");
        edge.is("one has, another has that alone", z.measure(0, 0, 4), 4);
        edge.says(0, "FALL: RIGHT ones of that YEAR less those of the next, together (below 0, too)");
        Due.read(z, 0, "000000000000");
        z.question(0, 0, 1);
        edge.is("by a new KEY", z.measure(0, 0, 4), 4);
        z.leaves(1);
        z.mark(0, 0, 0, 1);
        edge.is("one more", z.measure(0, 0, 4), -1);
        edge.says(0, "FALL: the farthest there can be");
        edge.is("20 by 12", allFall("000000000000", "111111111111"), 240);
        edge.is("20 by 12 up", allFall("111111111111", "000000000000"), -240);
    }

    private static int allFall(String first, String next) {
        RubbedSheets x = States.children(20);
        for (String row : new String[] {first, next}) {
            x.slip(0, 8, 12);
            for (int q = 0; q < 12; q++) {
                x.write(0, q, row.charAt(q) - '0');
            }
            for (int child = 0; child < 20; child++) {
                x.read(child, 0);
            }
            x.year();
        }
        return x.measure(0, 0, 4);
    }

    private static void looked() {
        edge.says(21, "(it counts as looked at)");
        RubbedSheets x = States.sheets("000000000000");
        edge.is("not yet", x.looked(), 0);
        for (int m = 0; m <= 6; m++) {
            x.measure(0, 0, m);
            edge.is("behind measure " + m, x.looked(), m + 1);
        }
        edge.says(22, "How often measure() was answered: a finding does not count");
        x.measure(0, 0, 7);
        x.measure(1, 0, 0);
        x.measure(0, 1, 0);
        edge.is("as ahead", x.looked(), 7);
        edge.says(22, "How often measure() was answered: nothing else counts, looked() neither");
        x.odd(0, 0, 0, 0);
        x.string(0, 0, 3, 0);
        x.sheetIs(0, 0, 5);
        x.line(0, 0, 0);
        Due.way(x, "wr");
        x.says(0, 0, 0);
        x.judges(0, 0, 0);
        x.slip(0, 8, 7);
        x.check(0, 0, 0);
        edge.is("as ahead, too", x.looked(), 7);
        edge.says(22, "(image, undo don't matter)");
        x.image();
        x.measure(0, 0, 0);
        x.undo();
        edge.is("behind undo", x.looked(), 8);
        x.tear();
        edge.is("behind tear", x.looked(), 8);
        edge.idles(States::school, 1, y -> y.looked());
        edge.idles(States::fresh, 0, y -> y.looked());
    }

    private static void stringRanges() {
        edge.says(23, "BEYOND: no such ROOM");
        edge.letsNoOther(States::school, 0, 1, (x, v) -> x.string(v, 0, 2, 0));
        edge.lets(States::brim, 0, 5, (x, v) -> x.string(v, 5, 2, 0));
        edge.letsNoOther(States::fresh, 1, 0, (x, v) -> x.string(v, 0, 2, 0));
        edge.says(23, "BEYOND: no such YEAR");
        edge.lets(States::school, 0, 5, (x, v) -> x.string(0, v, 2, 0));
        edge.says(0, "STRING of k (2 to 9)");
        edge.lets(States::school, 2, 9, (x, v) -> x.string(0, 0, v, 0));
        edge.lets(States::brim, 2, 9, (x, v) -> x.string(5, 5, v, 1));
        edge.says(23, "what 0 its length, 1 its first QUESTION, 2 its CHILDREN: no other what");
        edge.lets(States::school, 0, 2, (x, v) -> x.string(0, 0, 2, v));
    }

    private static void string(RubbedSheets x, int k, int length, int first, int children) {
        edge.is("length of " + k, x.string(0, 0, k, 0), length);
        edge.is("first of " + k, x.string(0, 0, k, 1), first);
        edge.is("children of " + k, x.string(0, 0, k, 2), children);
    }

    private static void stringOfNone() {
        edge.says(23, "(-1: its length is 0), (0 then): a ROOM without CHILDREN");
        string(States.rooms(1), 2, 0, -1, 0);
        edge.says(23, "(-1: its length is 0), (0 then): CHILDREN without SHEETS (no finding)");
        string(States.children(3), 2, 0, -1, 0);
        edge.idles(States::brim, 0, x -> x.string(4, 5, 2, 0), x -> x.string(4, 5, 2, 2));
        edge.idles(States::brim, -1, x -> x.string(4, 5, 2, 1));
        edge.says(23, "(-1: its length is 0), (0 then): none BLANK");
        string(States.sheets("............", "............"), 2, 0, -1, 0);
        edge.says(23, "(-1: its length is 0), (0 then): no choice is the same");
        string(States.sheets("012301230123", "123012301230"), 2, 0, -1, 0);
        edge.says(23, "(-1: its length is 0), (0 then): SHEETS of another YEAR or ROOM");
        RubbedSheets x = States.sheets("000000000000");
        x.room();
        x.child(1, 0);
        x.child(0, 1);
        Due.read(x, 1, "000000000000");
        string(x, 2, 0, -1, 0);
        x.year();
        Due.read(x, 2, "000000000000");
        string(x, 2, 0, -1, 0);
        edge.is("length in the other YEAR", x.string(0, 1, 2, 0), 0);
    }

    private static void stringOfAtLeastK() {
        edge.says(0, "at least k SHEETS have the same choices");
        for (int alike = 1; alike <= 10; alike++) {
            RubbedSheets x = States.children(11);
            x.slip(0, 8, 12);
            for (int child = 1; child <= alike; child++) {
                x.read(child, 0);
            }
            for (int k = 2; k <= 9; k++) {
                boolean is = alike >= k;
                string(x, k, is ? 12 : 0, is ? 0 : -1, is ? (1 << alike) - 1 << 1 : 0);
            }
        }
        edge.says(0, "at least k SHEETS: all of 24 CHILDREN's places can be of it");
        RubbedSheets y = States.rooms(2);
        for (int child = 0; child < 24; child++) {
            y.child(child < 4 ? 1 : 0, child < 4 ? child : child - 4);
        }
        y.slip(0, 8, 12);
        for (int child = 0; child < 24; child++) {
            y.read(child, 0);
        }
        string(y, 9, 12, 0, 0xFFFFF0);
        edge.is("of room 1", y.string(1, 0, 4, 2), 15);
        edge.is("of room 1, too few", y.string(1, 0, 5, 2), 0);
    }

    private static void stringLengths() {
        edge.says(0, "the greatest length: one QUESTION, at each place");
        for (int q = 0; q < 12; q++) {
            String row = ".".repeat(q) + "3" + ".".repeat(11 - q);
            string(States.sheets(row, row), 2, 1, q, 3);
        }
        edge.says(0, "the greatest length: from each QUESTION to the last");
        for (int q = 0; q < 12; q++) {
            String one = "0".repeat(q) + "2".repeat(12 - q);
            String other = "1".repeat(q) + "2".repeat(12 - q);
            string(States.sheets(one, other), 2, 12 - q, q, 3);
        }
        edge.says(0, "the greatest length: from the first QUESTION to each");
        for (int n = 1; n <= 12; n++) {
            String one = "2".repeat(n) + "0".repeat(12 - n);
            String other = "2".repeat(n) + "1".repeat(12 - n);
            string(States.sheets(one, other), 2, n, 0, 3);
        }
        edge.says(0, "none BLANK: a BLANK in both cuts it");
        string(States.sheets("00000.000000", "00000.000000"), 2, 6, 6, 3);
        edge.says(0, "none BLANK: a BLANK in one cuts it");
        string(States.sheets("0000000.0000", "000000000000"), 2, 7, 0, 3);
        edge.says(0, "the same choices: not as many RIGHT ones, and each at its own place");
        string(States.sheets("010101010101", "101010101010"), 2, 0, -1, 0);
    }

    private static void stringTies() {
        edge.says(0, "of several the one of the most SHEETS (ahead of the first QUESTION)");
        string(States.sheets("000000111111", "000000......", "......111111", "......111111"), 2, 6, 6, 13);
        edge.says(0, "the greatest length (ahead of the most SHEETS)");
        string(States.sheets("0000........", "0000........", "000.........", "000........."), 2, 4, 0, 3);
        edge.says(0, "then with the first QUESTION that is least (ahead of the least set)");
        string(States.sheets("......111111", "......111111", "000000......", "000000......"), 2, 6, 0, 12);
        edge.says(0, "then with the least set of CHILDREN");
        string(States.sheets("000000......", "111111......", "111111......", "000000......"), 2, 6, 0, 6);
        string(States.sheets("111111......", "000000......", "111111......", "000000......"), 2, 6, 0, 5);
        string(States.sheets("333333......", "222222......", "333333......", "222222......"), 2, 6, 0, 5);
        string(States.sheets("0...........", "1...........", "2...........", "2...........", "1...........",
                "0..........."), 2, 1, 0, 12);
    }

    private static void oddRanges() {
        edge.says(24, "BEYOND: no such ROOM");
        edge.lets(States::school, 0, 1, (x, v) -> x.odd(v, 0, 0, 0));
        edge.letsNoOther(States::brim, 0, 5, (x, v) -> x.odd(v, 5, 0, 0));
        edge.letsNoOther(States::fresh, 1, 0, (x, v) -> x.odd(v, 0, 0, 0));
        edge.says(24, "BEYOND: no such YEAR");
        edge.lets(States::brim, 0, 5, (x, v) -> x.odd(5, v, 0, 0));
        edge.letsNoOther(States::school, 0, 5, (x, v) -> x.odd(0, v, 0, 0));
        edge.says(24, "by a MEASURE (0 to 6)");
        edge.lets(States::school, 0, 6, (x, v) -> x.odd(0, 0, v, 0));
        edge.lets(States::brim, 0, 6, (x, v) -> x.odd(5, 5, v, 1));
        edge.says(24, "what 0 how many, 1 of how many: no other what");
        edge.lets(States::school, 0, 1, (x, v) -> x.odd(0, 0, 0, v));
        edge.says(24, "NONE: the ROOM has no SHEETS of that YEAR");
        edge.refuses(States::school, Edge.NONE, x -> x.odd(0, 2, 0, 0), x -> x.odd(1, 5, 6, 1));
        edge.refuses(States::brim, Edge.NONE, x -> x.odd(4, 0, 0, 0), x -> x.odd(4, 5, 0, 1));
        edge.says(24, "BEYOND is asked ahead of NONE");
        edge.refuses(States::school, Edge.BEYOND, x -> x.odd(0, 2, 7, 0), x -> x.odd(0, 2, 0, 2), x -> x.odd(0, 2, -1, 0),
                x -> x.odd(0, 2, 0, -1));
    }

    private static void odd(RubbedSheets x, int room, int m, int many, int of) {
        edge.is("how many, room " + room, x.odd(room, 0, m, 0), many);
        edge.is("of how many, room " + room, x.odd(room, 0, m, 1), of);
    }

    private static void odd() {
        edge.says(0, "ODD: as much or more (itself, too): one ROOM alone");
        odd(States.sheets("000000000000"), 0, 0, 1, 1);
        edge.says(0, "ODD: as much or more: six ROOMS alike");
        RubbedSheets x = States.rooms(6);
        for (int room = 0; room < 6; room++) {
            x.child(room, 0);
            Due.read(x, room, "111111000000");
        }
        odd(x, 0, 0, 6, 6);
        odd(x, 5, 6, 6, 6);
        edge.says(0, "ODD: as much or more: six ROOMS unlike");
        for (int room = 0; room < 6; room++) {
            x.puts(room, room + 1);
        }
        for (int room = 0; room < 6; room++) {
            odd(x, room, 0, 6 - room, 6);
            odd(x, room, 6, 6 - room, 6);
        }
        edge.says(0, "ODD: ROOMS with SHEETS of that YEAR: the others don't count, though they have as much (0)");
        RubbedSheets y = States.rooms(3);
        y.child(0, 0);
        y.child(2, 0);
        y.sit(1, 1);
        odd(y, 2, 0, 1, 1);
        edge.says(0, "ODD: as much or more, of what is below 0, too");
        RubbedSheets z = States.rooms(2);
        z.child(0, 0);
        z.child(1, 0);
        Due.read(z, 0, "111111111111");
        Due.read(z, 1, "111111111100");
        z.year();
        Due.read(z, 0, "000000000000");
        Due.read(z, 1, "000000000000");
        odd(z, 0, 4, 2, 2);
        odd(z, 1, 4, 1, 2);
    }
}

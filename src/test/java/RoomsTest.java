/** Promises 21 to 24: measure, looked, string, odd. */
public final class RoomsTest {
    private static final Due due = new Due();

    public static void main(String[] args) {
        measure();
        fall();
        looked();
        string();
        stringChoosesAmongSeveral();
        stringEdges();
        odd();
        due.end("RoomsTest");
    }

    /** One room a word, one child a row in it, on seats 0, 1, .. */
    private static RubbedSheets withRooms(String[]... rooms) {
        RubbedSheets x = new RubbedSheets();
        int child = 0;
        for (int room = 0; room < rooms.length; room++) {
            x.room();
            for (int seat = 0; seat < rooms[room].length; seat++) {
                x.child(room, seat);
                if (!rooms[room][seat].isEmpty()) {
                    Due.read(x, child, rooms[room][seat]);
                }
                child++;
            }
        }
        return x;
    }

    private static String[] room(String... rows) {
        return rows;
    }

    private static void measure() {
        RubbedSheets x = withRooms(
                room("011000000000", "110000000000", "", "210000000000"), room("333333333333"), room());
        x.puts(0, 3);
        x.mark(1, 5, 0, 3);
        x.question(0, 1, 1);
        due.is("WR", x.measure(0, 0, 0), 3);
        due.is("RW", x.measure(0, 0, 1), 1);
        due.is("ROW", x.measure(0, 0, 2), 6);
        due.is("FIT", x.measure(0, 0, 3), 2);
        due.is("FALL", x.measure(0, 0, 4), 0);
        due.is("SIZE", x.measure(0, 0, 5), 3);
        due.is("PUTS", x.measure(0, 0, 6), 3);
        due.is("another room", x.measure(1, 0, 0), 0);
        due.is("another room's size", x.measure(1, 0, 5), 1);
        due.is("too few for a ROW", x.measure(1, 0, 2), 0);
        due.is("no sheets", x.measure(2, 0, 0), Due.NONE);
        due.is("another year", x.measure(0, 1, 0), Due.NONE);
        due.is("room above", x.measure(3, 0, 0), Due.BEYOND);
        due.is("room below", x.measure(-1, 0, 0), Due.BEYOND);
        due.is("year above", x.measure(0, 6, 0), Due.BEYOND);
        due.is("year below", x.measure(0, -1, 0), Due.BEYOND);
        due.is("m above", x.measure(0, 0, 7), Due.BEYOND);
        due.is("m below", x.measure(0, 0, -1), Due.BEYOND);
    }

    private static void fall() {
        RubbedSheets x = withRooms(room("000000000000", "000000111111", "000000000001"), room("000000000000"));
        x.year();
        Due.read(x, 0, "001111111111");
        Due.read(x, 1, "000000001111");
        due.is("10 less and 2 more", x.measure(0, 0, 4), 8);
        due.is("nothing of the other room", x.measure(1, 0, 4), 0);
        due.is("the next year has none yet", x.measure(0, 1, 4), 0);
        x.leaves(0);
        due.is("below 0", x.measure(0, 0, 4), -2);
        x.question(11, 0, 1);
        due.is("by the key as now", x.measure(0, 0, 4), -2);
        x.question(6, 0, 1);
        due.is("by the key as now, too", x.measure(0, 0, 4), 0);
        for (int year = 2; year <= 5; year++) {
            x.year();
        }
        Due.read(x, 0, "000000000000");
        due.is("year 5", x.measure(0, 5, 4), 0);
    }

    private static void looked() {
        RubbedSheets x = withRooms(room("000000000000"), room());
        due.is("not yet", x.looked(), 0);
        x.measure(0, 0, 0);
        x.measure(0, 0, 6);
        due.is("twice", x.looked(), 2);
        x.measure(1, 0, 0);
        x.measure(2, 0, 0);
        due.is("findings change nothing", x.looked(), 2);
        x.odd(0, 0, 0, 0);
        x.string(0, 0, 3, 0);
        x.line(0, 0, 0);
        due.is("others don't count", x.looked(), 2);
        x.image();
        x.measure(0, 0, 0);
        x.undo();
        due.is("undo doesn't matter", x.looked(), 3);
    }

    private static void string(RubbedSheets x, int room, int k, int length, int first, int members) {
        String call = "string of " + k + " of room " + room;
        due.is(call + ", length", x.string(room, 0, k, 0), length);
        due.is(call + ", first", x.string(room, 0, k, 1), first);
        due.is(call + ", members", x.string(room, 0, k, 2), members);
    }

    private static void string() {
        RubbedSheets x = withRooms(
                room("012301230123", "012301230123", "112301230120", "112301230.23", "..230......."));
        string(x, 0, 2, 12, 0, 3);
        string(x, 0, 3, 10, 1, 7);
        string(x, 0, 4, 8, 1, 15);
        string(x, 0, 5, 3, 2, 31);
        string(x, 0, 6, 0, -1, 0);
        string(x, 0, 9, 0, -1, 0);
    }

    private static void stringChoosesAmongSeveral() {
        // as long: that of more sheets, though it begins later
        string(withRooms(room("0000........", "0000....1111", "........1111", "........1111")), 0, 2, 4, 8, 14);
        // as many: that which begins first, though its set is greater
        string(withRooms(room("........1111", "........1111", "0000........", "0000........")), 0, 2, 4, 0, 12);
        // as long, as many, with one beginning: the least set
        string(withRooms(room("0000........", "1111........", "1111........", "0000........")), 0, 2, 4, 0, 6);
        string(withRooms(room("1111........", "0000........", "1111........", "0000........")), 0, 2, 4, 0, 5);
        // more of them than asked, all of them are told
        string(withRooms(room("01..........", "01..........", "01..........", "0...........")), 0, 2, 2, 0, 7);
    }

    private static void stringEdges() {
        RubbedSheets x = withRooms(room("", "000000000000"), room("", "000000000000", ""), room());
        string(x, 0, 2, 0, -1, 0);
        string(x, 2, 2, 0, -1, 0);
        Due.read(x, 0, "...........0");
        string(x, 0, 2, 1, 11, 3);
        Due.read(x, 4, "000000000000");
        string(x, 1, 2, 12, 0, 24);
        string(withRooms(room("..1.........", "..1.........")), 0, 2, 1, 2, 3);
        string(withRooms(room("............", "............")), 0, 2, 0, -1, 0);
        string(withRooms(room("0.0000000000", "0.0000000000")), 0, 2, 10, 2, 3);
        due.is("another year", x.string(1, 5, 2, 0), 0);
        due.is("k above", x.string(0, 0, 10, 0), Due.BEYOND);
        due.is("k below", x.string(0, 0, 1, 0), Due.BEYOND);
        due.is("what above", x.string(0, 0, 2, 3), Due.BEYOND);
        due.is("what below", x.string(0, 0, 2, -1), Due.BEYOND);
        due.is("room above", x.string(3, 0, 2, 0), Due.BEYOND);
        due.is("year above", x.string(0, 6, 2, 0), Due.BEYOND);
        due.is("year below", x.string(0, -1, 2, 0), Due.BEYOND);
    }

    private static void odd() {
        RubbedSheets x = withRooms(
                room("110000000000"), room("111000000000"), room("110000000000"), room(""), room("000000000000"));
        for (int room = 0; room < 3; room++) {
            x.puts(room, 99);
        }
        due.is("the oddest", x.odd(1, 0, 0, 0), 1);
        due.is("two alike", x.odd(0, 0, 0, 0), 3);
        due.is("two alike, too", x.odd(2, 0, 0, 0), 3);
        due.is("the least", x.odd(4, 0, 0, 0), 4);
        due.is("of all with sheets", x.odd(4, 0, 0, 1), 4);
        due.is("by PUTS", x.odd(1, 0, 6, 0), 1);
        due.is("none", x.odd(3, 0, 0, 0), Due.NONE);
        due.is("another year", x.odd(0, 1, 0, 0), Due.NONE);
        due.is("m above", x.odd(0, 0, 7, 0), Due.BEYOND);
        due.is("m below", x.odd(0, 0, -1, 0), Due.BEYOND);
        due.is("what above", x.odd(0, 0, 0, 2), Due.BEYOND);
        due.is("what below", x.odd(0, 0, 0, -1), Due.BEYOND);
        due.is("room above", x.odd(5, 0, 0, 0), Due.BEYOND);
        due.is("year above", x.odd(0, 6, 0, 0), Due.BEYOND);
    }
}

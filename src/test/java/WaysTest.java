/** Promises 25 to 30: feed, wipe, way, says, judges, line. */
public final class WaysTest {
    private static final Due due = new Due();

    public static void main(String[] args) {
        feed();
        wayFull();
        faults();
        worths();
        names();
        says();
        judges();
        line();
        lineEdges();
        due.end("WaysTest");
    }

    private static void feed() {
        RubbedSheets x = new RubbedSheets();
        due.is("n below", x.feed(0, 0), Due.BEYOND);
        due.is("n above", x.feed(0, 5), Due.BEYOND);
        due.is("the highest first", x.feed('1' << 16 | '+' << 8 | '2', 3), 3);
        due.is("only the lowest", x.feed(0x7F7F7F00 | '|', 1), 4);
        due.is("four", x.feed(' ' << 24 | '4' << 16 | '0' << 8 | '0', 4), 8);
        due.is("tape", x.count(7), 8);
        due.is("reads as 1+2| 400", x.way(), 0);
        due.is("empty then", x.count(7), 0);
        for (int i = 1; i <= 24; i++) {
            x.feed(0x20202020, 4);
        }
        due.is("99", x.feed(0x202020, 3), 99);
        due.is("two more are too many", x.feed(0x2020, 2), Due.FULL);
        due.is("nothing came", x.count(7), 99);
        due.is("n goes ahead of full", x.feed(0, 5), Due.BEYOND);
        due.is("100", x.feed('7', 1), 100);
        due.is("101", x.feed('7', 1), Due.FULL);
        due.is("100 bytes are a way", x.way(), 1);
        x.feed(0x313131, 3);
        due.is("wipe", x.wipe(), 3);
        due.is("wipe again", x.wipe(), 0);
        due.is("high bytes begin none", x.feed(-1, 4), 4);
        due.is("way", x.way(), -1);
    }

    private static void wayFull() {
        RubbedSheets x = new RubbedSheets();
        for (int way = 0; way < 6; way++) {
            due.is("way", Due.way(x, "1"), way);
        }
        due.is("faulty", Due.way(x, "+"), Due.FULL);
        due.is("tape stays", x.count(7), 1);
        due.is("ways", x.count(4), 6);
        due.is("full", Due.way(x, "1"), Due.FULL);
        due.is("FULL is counted", x.status(1), 2);
    }

    private static void fault(String text, int place) {
        RubbedSheets x = new RubbedSheets();
        due.is("[" + text + "]", Due.way(x, text), -1 - place);
        due.is("tape is empty behind [" + text + "]", x.count(7), 0);
        due.is("no finding by [" + text + "]", x.status(-1), 0);
        due.is("no way by [" + text + "]", x.count(4), 0);
    }

    private static void faults() {
        fault("", 0);
        fault("   ", 3);
        fault("wr|", 3);
        fault("wr| ", 4);
        fault("|wr", 0);
        fault("wr wr", 3);
        fault("wrrw", 0);
        fault("1+wrrw", 2);
        fault("rows", 0);
        fault("sizes", 0);
        fault("siz", 0);
        fault("w r", 0);
        fault("puts", 0);
        fault("xr", 0);
        fault("xit", 0);
        fault("xall", 0);
        fault("fal", 0);
        fault("ro", 0);
        fault("r", 0);
        fault(" ".repeat(98) + "wx", 98);
        fault(" ".repeat(95) + "1+wr(", 95 + 4);
        fault("x", 0);
        fault("1 x", 2);
        fault("12345", 0);
        fault("1+00001", 2);
        fault("1 23", 2);
        fault("12wr", 2);
        fault("wr12", 2);
        fault("1<2<3", 3);
        fault("1<2=3", 3);
        fault("1<!2", 2);
        fault("1+!2", 2);
        fault("!", 1);
        fault("! ", 2);
        fault("1!", 1);
        fault("-1", 0);
        fault("1--1", 2);
        fault("1<=2", 2);
        fault("1&&2", 2);
        fault("(", 1);
        fault("()", 1);
        fault("(1", 2);
        fault("(1 ", 3);
        fault("(1))", 3);
        fault(")", 0);
        fault("(1 2)", 3);
        fault("1(2)", 1);
        fault("(1)(2)", 3);
        fault("1#", 1);
        fault("#", 0);
        fault("WR", 0);
        fault("1\t", 1);
        fault("1*2", 1);
        fault("1\u00002", 1);
        fault("1\u00ff", 1);
        fault("!!!!!!!1", 6);
        fault("(((((((1)))))))", 6);
        fault("!(!(!(!1)))", 6);
        fault("!(!(!(1))))", 10);
        fault("!1<((((((1))))))", 8);
        fault("((((((1+(2))))))", 8);
        fault("1 + ", 4);
        fault("1=", 2);
    }

    private static int worth(String text) {
        RubbedSheets x = new RubbedSheets();
        x.room();
        x.child(0, 0);
        x.sit(0, 0);
        due.is("[" + text + "] is a way", Due.way(x, text), 0);
        return x.says(0, 0, 0);
    }

    private static void worth(String text, int want) {
        due.is("[" + text + "]", worth(text), want);
    }

    private static void worths() {
        worth("0", 0);
        worth("1+size", 2);
        worth("9000+9+size=size+9009", 1);
        worth(" ".repeat(96) + "size", 1);
        worth("1|".repeat(49) + "1", 1);
        worth("1-".repeat(49) + "1", -48);
        worth("1&".repeat(49) + "0", 0);
        worth("9999", 9999);
        worth("0012", 12);
        worth("  7  ", 7);
        worth("2+3-4", 1);
        worth("2-3-4", -5);
        worth("2-(3-4)", 3);
        worth("5|0", 1);
        worth("0|0", 0);
        worth("0|5|0", 1);
        worth("5&3", 1);
        worth("5&0", 0);
        worth("1|0&0", 1);
        worth("(1|0)&0", 0);
        worth("0&0|1", 1);
        worth("(5)", 5);
        worth("((5|2)+3)", 4);
        worth("!5", 0);
        worth("!0", 1);
        worth("!!5", 1);
        worth("!0+1", 0);
        worth("!0-0", 1);
        worth("!1<0", 1);
        worth("!3&0", 0);
        worth("!(3&0)", 1);
        worth("(!0)+5", 6);
        worth("1<2", 1);
        worth("2<2", 0);
        worth("2=2", 1);
        worth("2=3", 0);
        worth("3>2", 1);
        worth("2>2", 0);
        worth("0-1<0", 1);
        worth("1+1=3-1", 1);
        worth("(1<2)<3", 1);
        worth("1<(2<3)", 0);
        worth("2<1|3>2", 1);
        worth("!!!!!!5", 1);
        worth("((((((8))))))", 8);
        worth("!1&((((((1))))))", 0);
        worth("((((((1))))))+((((((2))))))", 3);
        worth("!(!(!(7)))", 0);
        worth("1 + 2\u0020", 3);
        worth("0-9999-9999-9999-9999-9999-9999-9999-9999-9999-9999-9999-9999-9999-9999-9999", -149985);
    }

    private static void names() {
        RubbedSheets x = new RubbedSheets();
        x.room();
        for (int child = 0; child < 3; child++) {
            x.child(0, child);
            Due.read(x, child, "000100110000");
        }
        x.question(0, 1, 5);
        x.puts(0, 4);
        x.mark(2, 11, 0, 1);
        x.mark(2, 11, 0, -1);
        x.mark(2, 0, 0, 3);
        x.year();
        Due.read(x, 0, "111100000000");
        String[] names = {"wr", "rw", "row", "fit", "fall", "size"};
        int[] wants = {4, 2, 3, 2, 4, 3};
        for (int m = 0; m < 6; m++) {
            due.is("measure " + names[m], x.measure(0, 0, m), wants[m]);
            due.is("name " + names[m], Due.way(x, names[m]), m);
            due.is("says " + names[m], x.says(m, 0, 0), wants[m]);
        }
    }

    private static void says() {
        RubbedSheets x = new RubbedSheets();
        x.room();
        x.room();
        x.child(0, 0);
        due.is("no way", x.says(0, 0, 0), Due.BEYOND);
        Due.way(x, "size+10");
        due.is("no sheets", x.says(0, 0, 0), Due.NONE);
        x.sit(0, 1);
        due.is("says", x.says(0, 0, 0), 11);
        due.is("the other room", x.says(0, 1, 0), Due.NONE);
        due.is("another year", x.says(0, 0, 5), Due.NONE);
        due.is("way above", x.says(1, 0, 0), Due.BEYOND);
        due.is("way below", x.says(-1, 0, 0), Due.BEYOND);
        due.is("room above", x.says(0, 2, 0), Due.BEYOND);
        due.is("room below", x.says(0, -1, 0), Due.BEYOND);
        due.is("year above", x.says(0, 0, 6), Due.BEYOND);
        due.is("year below", x.says(0, 0, -1), Due.BEYOND);
        due.is("not looked at", x.looked(), 0);
    }

    /** Rooms 0, 1, .. each with a child whose sheet has so many wrong ones; rooms of the set are put right. */
    private static RubbedSheets withWrongs(int helped, int... wrongs) {
        RubbedSheets x = new RubbedSheets();
        for (int room = 0; room < wrongs.length; room++) {
            x.room();
            x.child(room, 0);
            StringBuilder row = new StringBuilder("000000000000");
            for (int q = 0; q < wrongs[room]; q++) {
                row.setCharAt(q, '1');
            }
            Due.read(x, room, row.toString());
            for (int q = 0; q < wrongs[room]; q++) {
                x.mark(room, q, 1, 0);
            }
            if ((helped >> room & 1) == 1) {
                x.mark(room, 11, 0, -1);
                x.fills(room);
            }
        }
        return x;
    }

    private static void judges() {
        RubbedSheets x = withWrongs(0b01010, 1, 2, 3, 4);
        x.room();
        x.child(4, 0);
        Due.way(x, "wr>2");
        Due.way(x, "0-1");
        Due.way(x, "0");
        due.is("FLAGGED", x.judges(0, 0, 0), 0b1100);
        due.is("WRONGED", x.judges(0, 0, 1), 0b0100);
        due.is("MISSED", x.judges(0, 0, 2), 0b0010);
        due.is("all FLAGGED", x.judges(1, 0, 0), 0b1111);
        due.is("all WRONGED", x.judges(1, 0, 1), 0b0101);
        due.is("none MISSED", x.judges(1, 0, 2), 0);
        due.is("none FLAGGED", x.judges(2, 0, 0), 0);
        due.is("none WRONGED", x.judges(2, 0, 1), 0);
        due.is("all MISSED", x.judges(2, 0, 2), 0b1010);
        due.is("another year", x.judges(1, 1, 0), 0);
        due.is("way above", x.judges(3, 0, 0), Due.BEYOND);
        due.is("way below", x.judges(-1, 0, 0), Due.BEYOND);
        due.is("year above", x.judges(0, 6, 0), Due.BEYOND);
        due.is("what above", x.judges(0, 0, 3), Due.BEYOND);
        due.is("what below", x.judges(0, 0, -1), Due.BEYOND);
    }

    private static void line(RubbedSheets x, int m, int number, int wronged, int missed) {
        due.is("line", x.line(m, 0, 0), number);
        due.is("line wrongs", x.line(m, 0, 1), wronged);
        due.is("line misses", x.line(m, 0, 2), missed);
    }

    private static void line() {
        line(withWrongs(0b1100, 1, 2, 5, 6), 0, 3, 0, 0);
        line(withWrongs(0b1111, 1, 2, 5, 6), 0, 0, 0, 0);
        line(withWrongs(0b0000, 1, 2, 5, 6), 0, 7, 0, 0);
        // the innocent above all: missing the helped one or wronging the other are as much, missing wrongs fewer
        line(withWrongs(0b01, 3, 6), 0, 7, 0, 1);
        line(withWrongs(0b011, 3, 4, 6), 0, 0, 1, 0);
        line(withWrongs(0b0101, 3, 4, 5, 6), 0, 7, 0, 2);
        line(withWrongs(0b1101, 3, 4, 5, 6), 0, 5, 0, 1);
        line(withWrongs(0b10, 4, 4), 0, 5, 0, 1);
        line(withWrongs(0b10, 1, 2), 0, 2, 0, 0);
        line(withWrongs(0b10, 1, 9), 0, 2, 0, 0);
        line(withWrongs(0b110, 1, 2, 2), 0, 2, 0, 0);
        line(withWrongs(0b110, 0, 1, 2), 0, 1, 0, 0);
    }

    private static void lineEdges() {
        RubbedSheets x = new RubbedSheets();
        due.is("no rooms", x.line(0, 0, 0), Due.NONE);
        x.room();
        x.room();
        x.child(0, 0);
        x.child(1, 0);
        due.is("no sheets", x.line(0, 0, 0), Due.NONE);
        due.is("m above", x.line(6, 0, 0), Due.BEYOND);
        due.is("m below", x.line(-1, 0, 0), Due.BEYOND);
        due.is("year above", x.line(0, 6, 0), Due.BEYOND);
        due.is("what above", x.line(0, 0, 3), Due.BEYOND);
        due.is("what below", x.line(0, 0, -1), Due.BEYOND);
        Due.read(x, 0, "111111000000");
        Due.read(x, 1, "111111111111");
        x.puts(0, 1);
        x.year();
        Due.read(x, 0, "000000000000");
        Due.read(x, 1, "000000000000");
        // FALL is below 0 in both rooms, so that no line flags either
        line(x, 4, 0, 0, 1);
    }
}

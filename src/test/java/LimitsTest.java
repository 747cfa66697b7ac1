/** All the document's limits at once: every call answers, at the last place of each row too. */
public final class LimitsTest {
    private static final Due due = new Due();

    public static void main(String[] args) {
        RubbedSheets x = full();
        sheets(x);
        rooms(x);
        rest(x);
        lastYear();
        wildArguments();
        due.end("LimitsTest");
    }

    /** Room 5 has twenty children, 4 to 23; rooms 0 to 3 have one each. */
    private static RubbedSheets full() {
        RubbedSheets x = new RubbedSheets();
        for (int room = 0; room < 6; room++) {
            x.room();
        }
        for (int child = 0; child < 24; child++) {
            due.is("child", x.child(child < 4 ? child : 5, child < 4 ? 19 : child - 4), child);
        }
        due.is("the first sheet", Due.read(x, 0, "0.1000000001"), 9);
        for (int child = 1; child < 24; child++) {
            due.is("the same sheet", x.read(child, 3), 9);
        }
        return x;
    }

    private static void sheets(RubbedSheets x) {
        due.is("said to all", x.said(5, 11), 20);
        due.is("puts", x.puts(5, 19), 19);
        due.is("the last is left", x.bubble(23, 0, 2, 0), 1);
        due.is("puts it", x.puts(5, 99), 1);
        due.is("fills", x.fills(5), 20);
        due.is("copies", x.copies(23, 22), 0);
        due.is("mark the last", x.mark(23, 11, 7, 3), 1);
        due.is("as", x.as(23, 0, 11, 1), 3);
        due.is("right", x.sheetIs(23, 0, 0), 11);
        due.is("learn the last", x.learn(23, 11, true), 1);
        due.is("sheets", x.count(2), 24);
    }

    private static void rooms(RubbedSheets x) {
        int[] wants = {40, 1, 12, 0, 0, 20, 40};
        for (int m = 0; m < 7; m++) {
            due.is("measure " + m, x.measure(5, 0, m), wants[m]);
        }
        due.is("string", x.string(5, 0, 9, 0), 12);
        due.is("its members", x.string(5, 0, 9, 2), 0x7FFFF0);
        due.is("string with the last one", x.string(5, 0, 2, 2), 0x7FFFF0);
        due.is("odd", x.odd(5, 0, 0, 0), 1);
        due.is("of five", x.odd(5, 0, 0, 1), 5);
        due.is("line", x.line(5, 0, 0), 2);
        due.is("room 4 is empty", x.measure(4, 0, 0), Due.NONE);
    }

    private static void rest(RubbedSheets x) {
        for (int i = 0; i < 6; i++) {
            due.is("way", Due.way(x, " ".repeat(95) + (i % 2 == 0 ? " size" : "9999 ")), i);
        }
        due.is("says", x.says(4, 5, 0), 20);
        due.is("judges", x.judges(5, 0, 0), 0b101111);
        due.is("wronged", x.judges(5, 0, 1), 0b001111);
        for (int i = 0; i < 30; i++) {
            x.holds(i % 10, 5, i, i + 1);
        }
        due.is("gaps", x.gaps(5, 0, 99, 0), 69);
        due.is("first gap", x.gaps(5, 0, 99, 1), 30);
        due.is("could", x.could(5, 0, 99, 3), 1023);
        for (int i = 0; i < 8; i++) {
            x.form(99, 1 << i);
        }
        due.is("all forms but HAND's", x.cheapest(254, 0), 99);
        due.is("HAND's form", x.cheapest(254, 1), 1);
        due.is("image", x.image(), 1);
        due.is("undo", x.undo(), 0);
        due.is("choices", x.count(9), 24 * 11 + 20);
        for (int s = 0; s < 4; s++) {
            due.is("slip", x.slip(s, 32, 24), 24);
            due.is("write", x.write(s, 23, s), 1);
        }
        due.is("copy", x.copy(3, 0, 0, 0, 24), 24);
        due.is("check", x.check(5, 0, 3), 0);
    }

    private static void lastYear() {
        RubbedSheets x = full();
        for (int year = 1; year <= 5; year++) {
            x.year();
            due.is("the last child sits", x.sit(23, year) >= 0 ? 1 : 0, 1);
            due.is("its sheets", x.childIs(23, 4), year + 1);
        }
        due.is("sheets", x.count(3), 29);
        due.is("no fall in year 5", x.measure(5, 5, 4), 0);
        due.is("one sheet", x.measure(5, 5, 5), 1);
        due.is("mark the very last", x.mark(23, 11, 0, -1) + x.mark(23, 11, 0, 0) > 0 ? 1 : 0, 1);
    }

    /** Whatever is asked, in a new object or a full one, each call answers. */
    private static void wildArguments() {
        int[] wild = {Integer.MIN_VALUE, -1, 0, 5, 23, 24, Integer.MAX_VALUE};
        for (int a : wild) {
            RubbedSheets[] both = {new RubbedSheets(), full()};
            for (RubbedSheets x : both) {
                int sum = 0;
                for (int b : wild) {
                    sum ^= x.question(a, b, a) ^ x.child(a, b) ^ x.learn(a, b, true) ^ x.forget(a, b) ^ x.childIs(a, b);
                    sum ^= x.sit(a, b) ^ x.read(a, b) ^ x.mark(a, b, a, b) ^ x.copies(a, b) ^ x.said(a, b) ^ x.puts(a, b);
                    sum ^= x.fills(a) ^ x.leaves(a) ^ x.bubble(a, b, b, a) ^ x.sheetIs(a, b, a) ^ x.weight(a, b);
                    sum ^= x.as(a, b, a, b) ^ x.measure(a, b, b) ^ x.string(a, b, 5, a) ^ x.odd(a, b, a, b) ^ x.feed(a, b);
                    sum ^= x.says(a, b, a) ^ x.judges(a, b, a) ^ x.line(a, b, a) ^ x.holds(a, b, a, b) ^ x.gaps(a, b, a, b);
                    sum ^= x.could(a, b, a, b) ^ x.form(a, b) ^ x.cheapest(a, b) ^ x.slip(a, b, b) ^ x.slip(a, 8, b);
                    sum ^= x.write(a, b, a) ^ x.copy(a, b, a, b, b) ^ x.check(a, b, a) ^ x.count(a) ^ x.status(b);
                }
                due.is("answered " + sum, x.status(-1) > 0 ? 1 : 0, 1);
            }
        }
    }
}

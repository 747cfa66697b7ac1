/** Promises 9 to 16: sit, read, mark, copies, said, puts, fills, leaves. */
public final class HandsTest {
    private static final Due due = new Due();

    public static void main(String[] args) {
        sit();
        sitByLots();
        read();
        mark();
        copies();
        copiesWrong();
        said();
        puts();
        fills();
        leaves();
        sheetsAreApart();
        due.end("HandsTest");
    }

    /** One room with children on seats 0, 1, .. */
    private static RubbedSheets withChildren(int n) {
        RubbedSheets x = new RubbedSheets();
        x.room();
        for (int i = 0; i < n; i++) {
            x.child(0, i);
        }
        return x;
    }

    private static void sheetIs(RubbedSheets x, int child, int year, String row) {
        for (int q = 0; q < 12; q++) {
            int want = row.charAt(q) == '.' ? -1 : row.charAt(q) - '0';
            due.is("choice " + q + " of child " + child, x.bubble(child, year, q, 0), want);
        }
    }

    private static void kindsAre(RubbedSheets x, int child, int year, String row) {
        for (int q = 0; q < 12; q++) {
            due.is("kind " + q + " of child " + child, x.bubble(child, year, q, 1), row.charAt(q) - '0');
        }
    }

    private static void sit() {
        RubbedSheets x = withChildren(1);
        x.question(4, 0, 3);
        x.question(5, 0, 2);
        for (int q = 0; q < 12; q++) {
            x.learn(0, q, q % 2 == 0);
        }
        due.is("all known", x.sit(0, 77), 12);
        sheetIs(x, 0, 0, "000032000000");
        kindsAre(x, 0, 0, "212121212121");
        due.is("sat", x.sit(0, 77), Due.STATE);
        due.is("child above", x.sit(1, 0), Due.BEYOND);
        due.is("child below", x.sit(-1, 0), Due.BEYOND);
        due.is("nothing rubbed", x.sheetIs(0, 0, 2) + x.sheetIs(0, 0, 3) + x.sheetIs(0, 0, 4), 0);
        x.year();
        due.is("a new year", x.sit(0, 77), 12);
        x.forget(0, 0);
        due.is("sheets stay when it is forgotten", x.bubble(0, 0, 0, 0), 0);
    }

    private static void sitByLots() {
        int[] lots = {0, 1, -1, 99, Integer.MAX_VALUE, Integer.MIN_VALUE, 123456789};
        for (int lot : lots) {
            RubbedSheets x = withChildren(1);
            x.learn(0, 3, false);
            x.question(3, 0, 1);
            long walk = lot;
            int right = 1;
            int[] want = new int[12];
            for (int q = 0; q < 12; q++) {
                if (q == 3) {
                    want[q] = 1;
                    continue;
                }
                walk = (int) (walk * 1103515245L + 12345L);
                int rest = (int) (((walk & 0xFFFFFFFFL) / 65536L) % 5L);
                want[q] = rest == 4 ? -1 : rest;
                right += rest == 0 ? 1 : 0;
            }
            due.is("right by lots " + lot, x.sit(0, lot), right);
            for (int q = 0; q < 12; q++) {
                due.is("choice by lots", x.bubble(0, 0, q, 0), want[q]);
                due.is("kind by lots", x.bubble(0, 0, q, 1), q == 3 ? 1 : want[q] < 0 ? 0 : 7);
            }
        }
    }

    private static void read() {
        RubbedSheets x = withChildren(2);
        x.question(1, 0, 1);
        due.is("missing", x.read(0, 0), Due.MISSING);
        due.is("slip above", x.read(0, 4), Due.BEYOND);
        due.is("slip below", x.read(0, -1), Due.BEYOND);
        due.is("child goes ahead", x.read(2, 0), Due.BEYOND);
        x.slip(0, 16, 13);
        due.is("13 numbers", x.read(0, 0), Due.SIZE);
        x.slip(0, 16, 11);
        x.write(0, 0, 9);
        due.is("size goes ahead of numbers", x.read(0, 0), Due.SIZE);
        x.slip(0, 16, 12);
        x.write(0, 11, 4);
        due.is("4", x.read(0, 0), Due.BEYOND);
        x.write(0, 11, -2);
        due.is("-2", x.read(0, 0), Due.BEYOND);
        due.is("read", Due.read(x, 0, "012301230123"), 4);
        sheetIs(x, 0, 0, "012301230123");
        kindsAre(x, 0, 0, "000000000000");
        due.is("numbers go ahead of the sheet", x.read(0, 0), Due.BEYOND);
        due.is("read again", Due.read(x, 0, "000000000000"), Due.STATE);
        due.is("blanks", Due.read(x, 1, "...........3"), 0);
        sheetIs(x, 1, 0, "...........3");
        due.is("eleven blank", x.sheetIs(1, 0, 1), 11);
        due.is("nothing rubbed", x.measure(0, 0, 0) + x.measure(0, 0, 1), 0);
    }

    private static void mark() {
        RubbedSheets x = withChildren(1);
        due.is("no sheet", x.mark(0, 0, 0, 0), Due.STATE);
        Due.read(x, 0, "01.000000000");
        due.is("child above", x.mark(1, 0, 0, 0), Due.BEYOND);
        due.is("q above", x.mark(0, 12, 0, 0), Due.BEYOND);
        due.is("q below", x.mark(0, -1, 0, 0), Due.BEYOND);
        due.is("kind above", x.mark(0, 0, 8, 0), Due.BEYOND);
        due.is("kind below", x.mark(0, 0, -1, 0), Due.BEYOND);
        due.is("choice above", x.mark(0, 0, 0, 4), Due.BEYOND);
        due.is("choice below", x.mark(0, 0, 0, -2), Due.BEYOND);
        due.is("so by now", x.mark(0, 0, 5, 0), 0);
        due.is("kind stays", x.bubble(0, 0, 0, 1), 0);
        due.is("blank by now", x.mark(0, 2, 5, -1), 0);
        due.is("no kind for it", x.bubble(0, 0, 2, 1), 0);
        due.is("blank to wrong", x.mark(0, 2, 5, 3), 1);
        due.is("kind of it", x.bubble(0, 0, 2, 1), 5);
        rubbed(x, 0, 0, 0);
        due.is("wrong to right", x.mark(0, 2, 6, 0), 1);
        rubbed(x, 1, 0, 0);
        due.is("right to wrong", x.mark(0, 2, 4, 1), 1);
        rubbed(x, 1, 1, 0);
        due.is("wrong to wrong", x.mark(0, 2, 3, 2), 1);
        rubbed(x, 1, 1, 1);
        due.is("wrong to blank", x.mark(0, 2, 2, -1), 1);
        rubbed(x, 1, 1, 2);
        due.is("kind of the blank", x.bubble(0, 0, 2, 1), 2);
        due.is("blank to right", x.mark(0, 2, 1, 0), 1);
        rubbed(x, 1, 1, 2);
        due.is("right to blank", x.mark(0, 2, 7, -1), 1);
        rubbed(x, 1, 2, 2);
        x.question(0, 0, 2);
        due.is("by the key as now", x.mark(0, 0, 0, 2), 1);
        rubbed(x, 2, 2, 2);
        x.question(0, 0, 0);
        rubbed(x, 2, 2, 2);
        x.year();
        due.is("only the open year", x.mark(0, 0, 0, 1), Due.STATE);
    }

    private static void rubbed(RubbedSheets x, int wr, int rw, int ww) {
        due.is("WR", x.sheetIs(0, 0, 2), wr);
        due.is("RW", x.sheetIs(0, 0, 3), rw);
        due.is("WW", x.sheetIs(0, 0, 4), ww);
    }

    private static void copies() {
        RubbedSheets x = withChildren(3);
        Due.read(x, 0, "000011.1222.");
        Due.read(x, 1, "000.2233.3..");
        due.is("copies what differs", x.copies(1, 0), 7);
        sheetIs(x, 1, 0, "00001131222.");
        kindsAre(x, 1, 0, "000333033330");
        due.is("wrong to wrong thrice", x.sheetIs(1, 0, 4), 4);
        due.is("all alike", x.copies(1, 0), 0);
        due.is("the other way", x.copies(0, 1), 1);
        due.is("source stays", x.bubble(1, 0, 6, 0), 3);
    }

    private static void copiesWrong() {
        RubbedSheets x = withChildren(3);
        x.room();
        x.child(1, 1);
        Due.read(x, 0, "000000000000");
        due.is("other has none", x.copies(0, 1), Due.STATE);
        due.is("it has none", x.copies(1, 0), Due.STATE);
        Due.read(x, 1, "111111111111");
        Due.read(x, 2, "222222222222");
        Due.read(x, 3, "333333333333");
        due.is("two apart", x.copies(0, 2), Due.STATE);
        due.is("itself", x.copies(0, 0), Due.STATE);
        due.is("another room", x.copies(0, 3), Due.STATE);
        due.is("child above", x.copies(4, 0), Due.BEYOND);
        due.is("other above", x.copies(0, 4), Due.BEYOND);
        due.is("other below", x.copies(0, -1), Due.BEYOND);
        due.is("one down", x.copies(2, 1), 12);
        x.year();
        due.is("last year's", x.copies(0, 1), Due.STATE);
    }

    private static void said() {
        RubbedSheets x = withChildren(4);
        x.room();
        x.child(1, 0);
        x.question(5, 0, 2);
        Due.read(x, 0, "000000000000");
        Due.read(x, 1, "000002000000");
        Due.read(x, 2, "00000.000000");
        Due.read(x, 4, "000000000000");
        due.is("said", x.said(0, 5), 2);
        due.is("child 0", x.bubble(0, 0, 5, 0), 2);
        due.is("by SAID", x.bubble(0, 0, 5, 1), 4);
        due.is("it was so", x.bubble(1, 0, 5, 1), 0);
        due.is("blank too", x.bubble(2, 0, 5, 0), 2);
        due.is("not in another room", x.bubble(4, 0, 5, 0), 0);
        due.is("rubbed one", x.measure(0, 0, 0), 1);
        due.is("said again", x.said(0, 5), 0);
        due.is("room above", x.said(2, 5), Due.BEYOND);
        due.is("room below", x.said(-1, 5), Due.BEYOND);
        due.is("q above", x.said(0, 12), Due.BEYOND);
        due.is("q below", x.said(0, -1), Due.BEYOND);
        x.year();
        x.question(5, 0, 3);
        due.is("no sheets", x.said(0, 5), 0);
    }

    private static void puts() {
        RubbedSheets x = withChildren(2);
        x.room();
        x.child(1, 0);
        Due.read(x, 0, "1.1000000001");
        Due.read(x, 1, "100000000000");
        Due.read(x, 2, "100000000000");
        due.is("n below", x.puts(0, 0), Due.BEYOND);
        due.is("n above", x.puts(0, 100), Due.BEYOND);
        due.is("room above", x.puts(2, 1), Due.BEYOND);
        due.is("room below", x.puts(-1, 1), Due.BEYOND);
        due.is("the first two", x.puts(0, 2), 2);
        sheetIs(x, 0, 0, "0.0000000001");
        kindsAre(x, 0, 0, "505000000000");
        sheetIs(x, 1, 0, "100000000000");
        due.is("all of them", x.puts(0, 99), 2);
        sheetIs(x, 0, 0, "0.0000000000");
        sheetIs(x, 1, 0, "000000000000");
        sheetIs(x, 2, 0, "100000000000");
        due.is("no more", x.puts(0, 1), 0);
        due.is("WR", x.measure(0, 0, 0), 4);
        due.is("PUTS", x.measure(0, 0, 6), 4);
        x.year();
        due.is("last year's stay", x.puts(1, 1), 0);
    }

    private static void fills() {
        RubbedSheets x = withChildren(3);
        x.question(0, 0, 3);
        Due.read(x, 0, "..1.........");
        Due.read(x, 1, "000000000000");
        due.is("fills", x.fills(0), 11);
        sheetIs(x, 0, 0, "301000000000");
        kindsAre(x, 0, 0, "660666666666");
        sheetIs(x, 1, 0, "000000000000");
        due.is("nothing rubbed", x.measure(0, 0, 0), 0);
        due.is("PUTS, as FILLED is under PUT", x.sheetIs(0, 0, 6), 11);
        due.is("no more", x.fills(0), 0);
        due.is("room above", x.fills(1), Due.BEYOND);
        due.is("room below", x.fills(-1), Due.BEYOND);
    }

    /** The last year of one child and the first of the next don't touch. */
    private static void sheetsAreApart() {
        RubbedSheets x = withChildren(2);
        Due.read(x, 1, "100000000000");
        x.mark(1, 0, 5, 0);
        for (int year = 1; year <= 5; year++) {
            x.year();
        }
        due.is("child 0 has none", x.childIs(0, 4), 0);
        Due.read(x, 0, "111111111111");
        x.mark(0, 11, 6, 2);
        x.mark(0, 0, 6, 0);
        sheetIs(x, 1, 0, "000000000000");
        kindsAre(x, 1, 0, "500000000000");
        due.is("WR of child 1", x.sheetIs(1, 0, 2), 1);
        due.is("WR of child 0", x.sheetIs(0, 5, 2), 1);
        due.is("WW of child 0", x.sheetIs(0, 5, 4), 1);
        due.is("PUTS of child 0", x.sheetIs(0, 5, 6), 2);
        due.is("child 0 has one", x.childIs(0, 4), 1);
        due.is("child 1 has one", x.childIs(1, 4), 1);
        due.is("one of year 5", x.count(2), 1);
        RubbedSheets y = withChildren(2);
        Due.read(y, 1, "............");
        for (int year = 1; year <= 5; year++) {
            y.year();
        }
        Due.read(y, 0, ".11.........");
        due.is("puts on child 0's alone", y.puts(0, 99), 2);
        due.is("fills child 0's alone", y.fills(0), 10);
        sheetIs(y, 1, 0, "............");
    }

    private static void leaves() {
        RubbedSheets x = withChildren(1);
        due.is("none", x.leaves(0), Due.NONE);
        due.is("child above", x.leaves(1), Due.BEYOND);
        due.is("child below", x.leaves(-1), Due.BEYOND);
        Due.read(x, 0, "010000000000");
        x.mark(0, 1, 5, 0);
        due.is("leaves", x.leaves(0), 12);
        due.is("none again", x.leaves(0), Due.NONE);
        due.is("no sheet", x.sheetIs(0, 0, 0), Due.NONE);
        Due.read(x, 0, "0...........");
        due.is("a fresh one has nothing rubbed", x.sheetIs(0, 0, 2), 0);
        due.is("nor hands", x.bubble(0, 0, 1, 1), 0);
        x.year();
        due.is("the open year's alone", x.leaves(0), Due.NONE);
        due.is("last year's stays", x.sheetIs(0, 0, 0), 1);
    }
}

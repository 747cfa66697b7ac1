/** Promises 36 to 39: slip, write, copy, check. */
public final class SlipsTest {
    private static final Due due = new Due();

    public static void main(String[] args) {
        slip();
        write();
        lowestBits();
        copy();
        copyWrong();
        check();
        due.end("SlipsTest");
    }

    private static void slip() {
        RubbedSheets x = new RubbedSheets();
        due.is("8", x.slip(0, 8, 24), 24);
        due.is("16", x.slip(3, 16, 0), 0);
        due.is("none to write, not missing", x.write(3, 0, 0), Due.BEYOND);
        due.is("32", x.slip(1, 32, 1), 1);
        due.is("missing", x.slip(1, 0, 24), 0);
        due.is("it is", x.write(1, 0, 0), Due.MISSING);
        due.is("slip above", x.slip(4, 8, 1), Due.BEYOND);
        due.is("slip below", x.slip(-1, 8, 1), Due.BEYOND);
        due.is("bits", x.slip(0, 7, 1), Due.BEYOND);
        due.is("bits below", x.slip(0, -8, 1), Due.BEYOND);
        due.is("bits go ahead of size", x.slip(0, 64, -1), Due.BEYOND);
        due.is("n below", x.slip(0, 8, -1), Due.SIZE);
        due.is("n above", x.slip(0, 8, 25), Due.BEYOND);
        due.is("n below with bits 0", x.slip(0, 0, -1), Due.SIZE);
        due.is("n above with bits 0", x.slip(0, 0, 25), Due.BEYOND);
        due.is("still there", x.write(0, 23, 1), 1);
    }

    private static void write() {
        RubbedSheets x = new RubbedSheets();
        due.is("slip above", x.write(4, 0, 0), Due.BEYOND);
        due.is("slip below", x.write(-1, 0, 0), Due.BEYOND);
        due.is("missing", x.write(0, 99, 0), Due.MISSING);
        x.slip(0, 8, 3);
        due.is("number above", x.write(0, 3, 0), Due.BEYOND);
        due.is("number below", x.write(0, -1, 0), Due.BEYOND);
        due.is("last", x.write(0, 2, 0), 1);
    }

    /** A room with a sheet, and a slip of one number that check() compares with WR, which is 0. */
    private static void lowestBits() {
        RubbedSheets x = new RubbedSheets();
        x.room();
        x.child(0, 0);
        Due.read(x, 0, "000000000000");
        int[] bits = {8, 16, 32};
        for (int b : bits) {
            x.slip(0, b, 1);
            x.write(0, 0, 256);
            due.is("256 in " + b, x.check(0, 0, 0), b == 8 ? 1 : 0);
            x.write(0, 0, 65536);
            due.is("65536 in " + b, x.check(0, 0, 0), b == 32 ? 0 : 1);
            x.slip(0, b, 1);
            due.is("all 0 again", x.check(0, 0, 0), 1);
        }
        for (int b : bits) {
            RubbedSheets y = new RubbedSheets();
            y.room();
            y.child(0, 0);
            y.slip(0, b, 12);
            for (int q = 0; q < 12; q++) {
                y.write(0, q, (1 << (b - 1)) * 2 - 1);
            }
            due.is("all bits are -1, so blank, in " + b, y.read(0, 0), 0);
            due.is("blank", y.bubble(0, 0, 0, 0), -1);
        }
        RubbedSheets z = new RubbedSheets();
        z.room();
        z.child(0, 0);
        z.slip(0, 8, 12);
        z.write(0, 0, 128);
        due.is("below 0", z.read(0, 0), Due.BEYOND);
        z.write(0, 0, 258);
        due.is("2", z.read(0, 0), 11);
        due.is("the choice", z.bubble(0, 0, 0, 0), 2);
    }

    private static void rowIs(RubbedSheets x, int s, String row) {
        x.room();
        int child = x.child(0, x.count(1));
        due.is("reads", x.read(child, s) >= 0 ? 1 : 0, 1);
        for (int q = 0; q < 12; q++) {
            due.is("number " + q, x.bubble(child, 0, q, 0), row.charAt(q) - '0');
        }
    }

    private static void copy() {
        RubbedSheets x = new RubbedSheets();
        x.slip(0, 8, 12);
        for (int i = 0; i < 12; i++) {
            x.write(0, i, i % 4);
        }
        due.is("up, over itself", x.copy(0, 0, 0, 1, 11), 11);
        rowIs(x, 0, "001230123012");
        due.is("down, over itself", x.copy(0, 2, 0, 0, 10), 10);
        rowIs(x, 0, "123012301212");
        x.slip(1, 8, 12);
        due.is("to another", x.copy(0, 0, 1, 4, 3), 3);
        rowIs(x, 1, "000012300000");
        rowIs(x, 0, "123012301212");
        due.is("none", x.copy(0, 12, 1, 12, 0), 0);
        due.is("all", x.copy(0, 0, 1, 0, 12), 12);
        rowIs(x, 1, "123012301212");
    }

    private static void copyWrong() {
        RubbedSheets x = new RubbedSheets();
        x.slip(0, 8, 5);
        due.is("slip above", x.copy(4, 0, 0, 0, 0), Due.BEYOND);
        due.is("other above", x.copy(0, 0, 4, 0, 0), Due.BEYOND);
        due.is("other below", x.copy(0, 0, -1, 0, 0), Due.BEYOND);
        due.is("beyond goes ahead of missing", x.copy(1, 0, 4, 0, 0), Due.BEYOND);
        due.is("missing", x.copy(1, 0, 0, 0, 0), Due.MISSING);
        due.is("other missing", x.copy(0, -1, 1, 0, 0), Due.MISSING);
        x.slip(1, 16, 5);
        due.is("bits go ahead of places", x.copy(0, -1, 1, 0, 99), Due.KIND);
        x.slip(1, 8, 4);
        due.is("from below", x.copy(0, -1, 1, 0, 1), Due.BEYOND);
        due.is("to below", x.copy(0, 0, 1, -1, 1), Due.BEYOND);
        due.is("n below", x.copy(0, 0, 1, 0, -1), Due.BEYOND);
        due.is("too many of it", x.copy(0, 3, 1, 0, 3), Due.BEYOND);
        due.is("too many of the other", x.copy(0, 0, 1, 0, 5), Due.BEYOND);
        due.is("from behind its end", x.copy(0, 6, 1, 0, 0), Due.BEYOND);
        due.is("to behind its end", x.copy(0, 0, 1, 5, 0), Due.BEYOND);
        due.is("far", x.copy(0, Integer.MAX_VALUE, 1, 0, Integer.MAX_VALUE), Due.BEYOND);
        due.is("far n", x.copy(0, 1, 1, 1, Integer.MAX_VALUE), Due.BEYOND);
        due.is("the whole", x.copy(0, 1, 1, 0, 4), 4);
    }

    private static void check() {
        RubbedSheets x = new RubbedSheets();
        x.room();
        x.room();
        x.child(0, 0);
        Due.read(x, 0, "110000000000");
        x.puts(0, 99);
        due.is("missing", x.check(0, 0, 0), Due.MISSING);
        due.is("missing goes ahead of none", x.check(1, 0, 0), Due.MISSING);
        x.slip(0, 8, 0);
        due.is("none", x.check(1, 0, 0), Due.NONE);
        due.is("none in another year", x.check(0, 1, 0), Due.NONE);
        due.is("nothing told", x.check(0, 0, 0), 0);
        x.slip(0, 8, 9);
        due.is("WR is 2", x.check(0, 0, 0), 0);
        x.write(0, 0, 2);
        due.is("SIZE is 1", x.check(0, 0, 0), 5);
        x.write(0, 5, 1);
        due.is("PUTS is 2", x.check(0, 0, 0), 6);
        x.write(0, 6, 2);
        due.is("no measure 7", x.check(0, 0, 0), 7);
        x.slip(1, 8, 7);
        x.copy(0, 0, 1, 0, 7);
        due.is("all are so", x.check(0, 0, 1), 7);
        due.is("not looked at", x.looked(), 0);
        due.is("room above", x.check(2, 0, 0), Due.BEYOND);
        due.is("year above", x.check(0, 6, 0), Due.BEYOND);
        due.is("year below", x.check(0, -1, 0), Due.BEYOND);
        due.is("slip above", x.check(0, 0, 4), Due.BEYOND);
        due.is("slip below", x.check(0, 0, -1), Due.BEYOND);
        x.year();
        Due.read(x, 0, "000000000000");
        x.leaves(0);
        Due.read(x, 0, "000000000000");
        x.question(0, 0, 1);
        x.mark(0, 0, 0, 1);
        x.year();
        Due.read(x, 0, "100000000000");
        x.question(1, 0, 3);
        x.mark(0, 1, 0, 3);
        x.slip(1, 8, 7);
        x.write(1, 0, 1);
        x.write(1, 4, 255);
        x.write(1, 5, 1);
        due.is("FALL of -1 is told by 255 in 8 bits", x.check(0, 1, 1), 7);
    }
}

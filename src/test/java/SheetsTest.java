/** Promises 17 to 20: bubble, sheetIs, weight, as. */
public final class SheetsTest {
    private static final Due due = new Due();

    public static void main(String[] args) {
        bubble();
        sheetIs();
        unfitPairs();
        weight();
        as();
        due.end("SheetsTest");
    }

    private static RubbedSheets withSheet(String row) {
        RubbedSheets x = new RubbedSheets();
        x.room();
        x.child(0, 0);
        Due.read(x, 0, row);
        return x;
    }

    private static void bubble() {
        RubbedSheets x = withSheet("03.000000000");
        due.is("choice", x.bubble(0, 0, 1, 0), 3);
        due.is("blank", x.bubble(0, 0, 2, 0), -1);
        due.is("right", x.bubble(0, 0, 0, 2), 1);
        due.is("wrong", x.bubble(0, 0, 1, 2), 0);
        due.is("blank isn't right", x.bubble(0, 0, 2, 2), 0);
        x.question(1, 0, 3);
        due.is("right as now", x.bubble(0, 0, 1, 2), 1);
        x.mark(0, 1, 7, 2);
        due.is("kind", x.bubble(0, 0, 1, 1), 7);
        due.is("what above", x.bubble(0, 0, 0, 3), Due.BEYOND);
        due.is("what below", x.bubble(0, 0, 0, -1), Due.BEYOND);
        due.is("q above", x.bubble(0, 0, 12, 0), Due.BEYOND);
        due.is("q below", x.bubble(0, 0, -1, 0), Due.BEYOND);
        due.is("year above", x.bubble(0, 6, 0, 0), Due.BEYOND);
        due.is("year below", x.bubble(0, -1, 0, 0), Due.BEYOND);
        due.is("child above", x.bubble(1, 0, 0, 0), Due.BEYOND);
        due.is("none", x.bubble(0, 5, 0, 0), Due.NONE);
        due.is("beyond goes ahead of none", x.bubble(0, 5, 12, 0), Due.BEYOND);
    }

    private static void sheetIs() {
        RubbedSheets x = withSheet("0123....0000");
        due.is("right", x.sheetIs(0, 0, 0), 5);
        due.is("blank", x.sheetIs(0, 0, 1), 4);
        x.mark(0, 1, 5, 0);
        x.mark(0, 0, 5, 1);
        x.mark(0, 8, 5, -1);
        x.mark(0, 2, 6, 3);
        x.mark(0, 3, 4, 2);
        x.mark(0, 2, 6, 1);
        due.is("WR", x.sheetIs(0, 0, 2), 1);
        due.is("RW", x.sheetIs(0, 0, 3), 2);
        due.is("WW", x.sheetIs(0, 0, 4), 3);
        due.is("PUTS: a blank is no choice", x.sheetIs(0, 0, 6), 3);
        due.is("what above", x.sheetIs(0, 0, 7), Due.BEYOND);
        due.is("what below", x.sheetIs(0, 0, -1), Due.BEYOND);
        due.is("year above", x.sheetIs(0, 6, 0), Due.BEYOND);
        due.is("year below", x.sheetIs(0, -1, 0), Due.BEYOND);
        due.is("child above", x.sheetIs(1, 0, 0), Due.BEYOND);
        due.is("none", x.sheetIs(0, 1, 0), Due.NONE);
        x.year();
        due.is("old sheets are told", x.sheetIs(0, 0, 2), 1);
    }

    private static void unfitPairs() {
        RubbedSheets x = withSheet("0001.1000000");
        due.is("all as hard", x.sheetIs(0, 0, 5), 0);
        x.question(0, 1, 5);
        due.is("hard one right, three easier not", x.sheetIs(0, 0, 5), 3);
        x.question(3, 1, 5);
        due.is("as hard is no pair", x.sheetIs(0, 0, 5), 2);
        x.question(4, 1, 9);
        due.is("a harder wrong one fits", x.sheetIs(0, 0, 5), 1);
        x.question(1, 1, 6);
        due.is("two hard ones", x.sheetIs(0, 0, 5), 3);
        due.is("FIT", x.measure(0, 0, 3), 3);
        RubbedSheets y = withSheet("100000000000");
        y.question(11, 1, 1);
        due.is("first wrong, last right", y.sheetIs(0, 0, 5), 1);
        RubbedSheets z = withSheet("000000000001");
        z.question(0, 1, 1);
        due.is("first right, last wrong", z.sheetIs(0, 0, 5), 1);
    }

    private static void weight() {
        RubbedSheets x = new RubbedSheets();
        int[] all = {0, 1, 5, 7, -1, -7, 1000000, Integer.MAX_VALUE, Integer.MIN_VALUE, Integer.MIN_VALUE + 1};
        for (int n : all) {
            long wide = n;
            due.is("HAND", x.weight(0, n), n);
            due.is("OWN", x.weight(1, n), (int) (wide + 2));
            due.is("TAUGHT", x.weight(2, n), (int) (3 * (wide + 2)));
            due.is("COPIED", x.weight(3, n), wide / 2);
            due.is("SAID", x.weight(4, n), (int) (wide - 1));
            due.is("PUT", x.weight(5, n), (int) -wide);
            due.is("FILLED", x.weight(6, n), (int) (-2 * wide));
            due.is("GUESS", x.weight(7, n), (int) (wide + 1));
        }
        due.is("looks like a finding", x.weight(0, -1000001), -1000001);
        due.is("is none", x.status(-1), 0);
        due.is("kind above", x.weight(8, 0), Due.BEYOND);
        due.is("kind below", x.weight(-1, 0), Due.BEYOND);
        due.is("two now", x.status(0), 2);
    }

    private static void as() {
        int[] under = {255, 134, 4, 8, 16, 96, 64, 128};
        for (int kind = 0; kind < 8; kind++) {
            RubbedSheets x = withSheet("000000000000");
            x.mark(0, 3, kind, 2);
            x.mark(0, 4, kind, -1);
            for (int top = 0; top < 8; top++) {
                boolean is = (under[top] >> kind & 1) == 1;
                due.is("kind " + kind + " as " + top, x.as(0, 0, 3, top), is ? 2 : Due.KIND);
                due.is("blank by " + kind + " as " + top, x.as(0, 0, 4, top), is ? -1 : Due.KIND);
            }
        }
        RubbedSheets x = withSheet("000000000000");
        due.is("kind above", x.as(0, 0, 0, 8), Due.BEYOND);
        due.is("kind below", x.as(0, 0, 0, -1), Due.BEYOND);
        due.is("q above", x.as(0, 0, 12, 0), Due.BEYOND);
        due.is("year above", x.as(0, 6, 0, 0), Due.BEYOND);
        due.is("child above", x.as(1, 0, 0, 0), Due.BEYOND);
        due.is("none", x.as(0, 1, 0, 5), Due.NONE);
        due.is("beyond goes ahead of none", x.as(0, 1, 0, 8), Due.BEYOND);
        due.is("kind", x.as(0, 0, 0, 5), Due.KIND);
        due.is("counted", x.status(2), 1);
    }
}

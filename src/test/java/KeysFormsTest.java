/** Promises 31 to 35: holds, gaps, could, form, cheapest. */
public final class KeysFormsTest {
    private static final Due due = new Due();

    public static void main(String[] args) {
        holds();
        gaps();
        could();
        form();
        cheapest();
        due.end("KeysFormsTest");
    }

    private static void holds() {
        RubbedSheets x = new RubbedSheets();
        due.is("no room", x.holds(0, 0, 0, 1), Due.BEYOND);
        x.room();
        due.is("person above", x.holds(10, 0, 0, 1), Due.BEYOND);
        due.is("person below", x.holds(-1, 0, 0, 1), Due.BEYOND);
        due.is("room above", x.holds(0, 1, 0, 1), Due.BEYOND);
        due.is("from below", x.holds(0, 0, -1, 1), Due.BEYOND);
        due.is("to above", x.holds(0, 0, 0, 100), Due.BEYOND);
        due.is("no hours", x.holds(0, 0, 7, 7), Due.BEYOND);
        due.is("to below from", x.holds(0, 0, 7, 6), Due.BEYOND);
        for (int i = 1; i <= 30; i++) {
            due.is("holds", x.holds(9, 0, 98, 99), i);
        }
        due.is("31st", x.holds(9, 0, 98, 99), Due.FULL);
        due.is("beyond goes ahead of full", x.holds(10, 0, 98, 99), Due.BEYOND);
        due.is("count", x.count(6), 30);
        due.is("the last counts", x.could(0, 98, 99, 1), 512);
    }

    private static void gaps() {
        RubbedSheets x = new RubbedSheets();
        x.room();
        x.room();
        due.is("all hours", x.gaps(0, 0, 99, 0), 99);
        due.is("the first", x.gaps(0, 3, 99, 1), 3);
        x.holds(1, 0, 2, 5);
        x.holds(2, 0, 4, 8);
        x.holds(2, 1, 0, 99);
        due.is("gaps", x.gaps(0, 0, 10, 0), 4);
        due.is("first gap", x.gaps(0, 0, 10, 1), 0);
        due.is("from is held", x.gaps(0, 2, 10, 1), 8);
        due.is("none", x.gaps(0, 2, 8, 0), 0);
        due.is("none, so -1", x.gaps(0, 2, 8, 1), -1);
        due.is("one", x.gaps(0, 2, 9, 0), 1);
        due.is("the other room", x.gaps(1, 0, 99, 0), 0);
        due.is("what above", x.gaps(0, 0, 1, 2), Due.BEYOND);
        due.is("what below", x.gaps(0, 0, 1, -1), Due.BEYOND);
        due.is("room above", x.gaps(2, 0, 1, 0), Due.BEYOND);
        due.is("from below", x.gaps(0, -1, 1, 0), Due.BEYOND);
        due.is("to above", x.gaps(0, 0, 100, 0), Due.BEYOND);
        due.is("no hours", x.gaps(0, 5, 5, 0), Due.BEYOND);
    }

    private static void could() {
        RubbedSheets x = new RubbedSheets();
        x.room();
        x.room();
        x.holds(0, 0, 0, 10);
        x.holds(0, 0, 5, 12);
        x.holds(9, 0, 0, 11);
        x.holds(4, 1, 0, 50);
        due.is("an hour counts once", x.could(0, 0, 99, 12), 1);
        due.is("not 13", x.could(0, 0, 99, 13), 0);
        due.is("both", x.could(0, 0, 99, 11), 513);
        due.is("only these hours", x.could(0, 8, 20, 4), 1);
        due.is("only these hours, both", x.could(0, 8, 20, 3), 513);
        due.is("the last hour is not of these", x.could(0, 8, 11, 4), 0);
        due.is("three are", x.could(0, 8, 11, 3), 513);
        due.is("the other room", x.could(1, 0, 99, 50), 16);
        due.is("n above", x.could(0, 0, 99, 100), Due.BEYOND);
        due.is("n below", x.could(0, 0, 99, 0), Due.BEYOND);
        due.is("n at the edge", x.could(0, 0, 99, 99), 0);
        due.is("room above", x.could(2, 0, 99, 1), Due.BEYOND);
        due.is("no hours", x.could(0, 9, 9, 1), Due.BEYOND);
        due.is("to above", x.could(0, 9, 100, 1), Due.BEYOND);
        due.is("from below", x.could(0, -1, 9, 1), Due.BEYOND);
    }

    private static void form() {
        RubbedSheets x = new RubbedSheets();
        due.is("price above", x.form(100, 0), Due.BEYOND);
        due.is("price below", x.form(-1, 0), Due.BEYOND);
        due.is("bars above", x.form(0, 256), Due.BEYOND);
        due.is("bars below", x.form(0, -1), Due.BEYOND);
        for (int form = 0; form < 8; form++) {
            due.is("form", x.form(99, form == 7 ? 255 : 0), form);
        }
        due.is("ninth", x.form(0, 0), Due.FULL);
        due.is("beyond goes ahead of full", x.form(0, 256), Due.BEYOND);
        due.is("count", x.count(5), 8);
        due.is("the last", x.cheapest(255, 1), 128);
    }

    private static void cheapest(RubbedSheets x, int kinds, int price, int set) {
        due.is("price for " + kinds, x.cheapest(kinds, 0), price);
        due.is("set for " + kinds, x.cheapest(kinds, 1), set);
    }

    private static void cheapest() {
        RubbedSheets x = new RubbedSheets();
        cheapest(x, 0, 0, 0);
        due.is("no forms", x.cheapest(1, 0), Due.NONE);
        x.form(5, 2);
        x.form(3, 4);
        x.form(3, 128);
        x.form(6, 32);
        cheapest(x, 4, 3, 2);
        cheapest(x, 128, 3, 4);
        cheapest(x, 4 + 128, 5, 1);
        cheapest(x, 2, 5, 1);
        cheapest(x, 64, 6, 8);
        cheapest(x, 64 + 32 + 4, 9, 10);
        due.is("kinds above aren't barred by those under", x.cheapest(1, 0), Due.NONE);
        due.is("nor siblings", x.cheapest(8, 1), Due.NONE);
        x.form(9, 1);
        cheapest(x, 1, 9, 16);
        cheapest(x, 255, 9, 16);
        cheapest(x, 32 + 4, 9, 16);
        x.form(0, 0);
        x.form(0, 64);
        x.form(0, 64);
        cheapest(x, 64, 0, 64);
        cheapest(x, 0, 0, 0);
        due.is("kinds above", x.cheapest(256, 0), Due.BEYOND);
        due.is("kinds below", x.cheapest(-1, 0), Due.BEYOND);
        due.is("what above", x.cheapest(0, 2), Due.BEYOND);
        due.is("what below", x.cheapest(0, -1), Due.BEYOND);
        RubbedSheets y = new RubbedSheets();
        y.form(2, 8);
        y.form(2, 16);
        y.form(4, 24);
        cheapest(y, 24, 4, 4);
    }
}

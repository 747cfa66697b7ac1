/** Promises 40 to 44: image, undo, tear, count, status. */
public final class ImagesTest {
    private static final Due due = new Due();

    public static void main(String[] args) {
        imageAndUndo();
        latestImage();
        whatStays();
        freshNumbers();
        sheetsComeAndGo();
        count();
        status();
        manyCalls();
        due.end("ImagesTest");
    }

    private static RubbedSheets full() {
        RubbedSheets x = new RubbedSheets();
        x.room();
        x.child(0, 3);
        x.learn(0, 2, true);
        x.question(1, 0, 2);
        x.question(1, 1, 7);
        Due.read(x, 0, "010.00000000");
        x.mark(0, 1, 5, 2);
        Due.way(x, "wr+1");
        x.holds(1, 0, 0, 9);
        x.form(4, 2);
        return x;
    }

    private static void isAsFull(RubbedSheets x) {
        int[] counts = {1, 1, 1, 1, 1, 1, 1};
        for (int what = 0; what < counts.length; what++) {
            due.is("count " + what, x.count(what), counts[what]);
        }
        due.is("knows", x.childIs(0, 2), 4);
        due.is("taught", x.childIs(0, 3), 4);
        due.is("seat", x.childIs(0, 1), 3);
        due.is("choice", x.bubble(0, 0, 1, 0), 2);
        due.is("kind", x.bubble(0, 0, 1, 1), 5);
        due.is("blank", x.bubble(0, 0, 3, 0), -1);
        due.is("WR", x.sheetIs(0, 0, 2), 1);
        due.is("RW", x.sheetIs(0, 0, 3), 0);
        due.is("WW", x.sheetIs(0, 0, 4), 0);
        due.is("way", x.says(0, 0, 0), 2);
        due.is("keys", x.could(0, 0, 99, 9), 2);
        due.is("forms", x.cheapest(2, 0), 4);
        due.is("key", x.question(1, 0, 2), 2);
        due.is("hard", x.question(1, 1, 7), 7);
    }

    private static void changeAll(RubbedSheets x) {
        x.forget(0, 2);
        x.learn(0, 5, false);
        x.question(1, 0, 1);
        x.question(1, 1, 1);
        x.mark(0, 1, 0, 3);
        x.mark(0, 3, 0, 3);
        x.room();
        x.child(1, 1);
        x.learn(1, 1, true);
        x.sit(1, 1);
        Due.way(x, "7");
        x.holds(2, 0, 0, 99);
        x.form(1, 255);
        x.year();
        x.sit(0, 5);
        x.sit(1, 5);
    }

    private static void imageAndUndo() {
        RubbedSheets x = full();
        isAsFull(x);
        due.is("image", x.image(), 1);
        changeAll(x);
        due.is("undo", x.undo(), 0);
        isAsFull(x);
        due.is("year 1 has no sheets", x.sheetIs(0, 1, 0), Due.NONE);
        changeAll(x);
        due.is("what was kept stays", x.undo(), 0);
        isAsFull(x);
        due.is("undo of nothing new", x.undo(), 0);
        isAsFull(x);
        due.is("tear", x.tear(), 1);
        due.is("torn", x.undo(), Due.NONE);
        isAsFull(x);
        due.is("tear again", x.tear(), 0);
    }

    private static void latestImage() {
        RubbedSheets x = new RubbedSheets();
        x.image();
        x.room();
        x.year();
        x.year();
        x.image();
        x.room();
        x.year();
        due.is("the latest", x.undo(), 2);
        due.is("one room", x.count(0), 1);
        due.is("again", x.undo(), 2);
        x.tear();
        due.is("all is torn", x.undo(), Due.NONE);
        x.image();
        due.is("a new one", x.undo(), 2);
    }

    private static void whatStays() {
        RubbedSheets x = full();
        x.slip(0, 8, 1);
        x.write(0, 0, 1);
        x.feed('1', 1);
        x.image();
        x.write(0, 0, 2);
        x.slip(1, 16, 3);
        x.feed('2', 1);
        x.measure(0, 0, 0);
        x.room();
        x.child(9, 9);
        x.undo();
        due.is("tape stays", x.count(7), 2);
        due.is("slip stays", x.check(0, 0, 0), 0);
        due.is("other slip stays", x.write(1, 2, 0), 1);
        due.is("looked stays", x.looked(), 1);
        due.is("status stays", x.status(0), 1);
        due.is("tape reads 12", x.way(), 1);
        due.is("so it says", x.says(1, 0, 0), 12);
    }

    /** What came behind the image leaves no trace in what bears its number later. */
    private static void freshNumbers() {
        RubbedSheets x = full();
        x.image();
        changeAll(x);
        x.undo();
        x.room();
        due.is("child 1 again", x.child(0, 9), 1);
        due.is("its seat", x.childIs(1, 1), 9);
        due.is("knows nothing", x.childIs(1, 2), 0);
        due.is("was taught nothing", x.childIs(1, 3), 0);
        due.is("room", x.childIs(1, 0), 0);
        due.is("no sheets", x.childIs(1, 4), 0);
        due.is("way 1 again", Due.way(x, "size-5"), 1);
        due.is("its own text", x.says(1, 0, 0), -4);
        due.is("form 1 again", x.form(9, 8), 1);
        due.is("its own bars", x.cheapest(16, 0), Due.NONE);
    }

    private static void sheetsComeAndGo() {
        RubbedSheets x = new RubbedSheets();
        x.room();
        x.child(0, 0);
        x.image();
        x.sit(0, 1);
        x.undo();
        due.is("the sheet is gone", x.sheetIs(0, 0, 0), Due.NONE);
        Due.read(x, 0, "333333333333");
        x.image();
        x.leaves(0);
        Due.read(x, 0, "000000000000");
        x.mark(0, 0, 5, 1);
        x.undo();
        due.is("it is back", x.sheetIs(0, 0, 0), 0);
        due.is("with its choices", x.bubble(0, 0, 0, 0), 3);
        due.is("and hands", x.bubble(0, 0, 0, 1), 0);
        due.is("and nothing rubbed", x.sheetIs(0, 0, 3), 0);
    }

    private static void count() {
        RubbedSheets x = full();
        x.room();
        x.child(1, 0);
        Due.read(x, 1, "000000......");
        x.year();
        Due.read(x, 0, "1...........");
        x.feed(0, 3);
        due.is("rooms", x.count(0), 2);
        due.is("children", x.count(1), 2);
        due.is("sheets of the open year", x.count(2), 1);
        due.is("sheets", x.count(3), 3);
        due.is("ways", x.count(4), 1);
        due.is("forms", x.count(5), 1);
        due.is("keys", x.count(6), 1);
        due.is("tape", x.count(7), 3);
        due.is("year", x.count(8), 1);
        due.is("choices", x.count(9), 18);
        due.is("right ones", x.count(10), 16);
        due.is("what above", x.count(11), Due.BEYOND);
        due.is("what below", x.count(-1), Due.BEYOND);
    }

    private static void status() {
        RubbedSheets x = new RubbedSheets();
        due.is("BEYOND", x.sit(0, 0), Due.BEYOND);
        for (int i = 0; i < 7; i++) {
            x.room();
        }
        x.child(0, 0);
        x.read(0, 0);
        x.leaves(0);
        x.leaves(0);
        x.slip(0, 8, -1);
        x.child(0, 0);
        x.sit(0, 0);
        x.sit(0, 0);
        x.as(0, 0, 0, 6);
        int[] wants = {1, 1, 1, 2, 2, 1, 1};
        int sum = 0;
        for (int which = 0; which < 7; which++) {
            due.is("status " + which, x.status(which), wants[which]);
            sum += wants[which];
        }
        due.is("all", x.status(-1), sum);
        due.is("which above", x.status(7), Due.BEYOND);
        due.is("counted from then on", x.status(0), 2);
        due.is("which below", x.status(-2), Due.BEYOND);
        due.is("counted, too", x.status(-1), sum + 2);
        x.way();
        due.is("a fault is no finding", x.status(-1), sum + 2);
    }

    private static void manyCalls() {
        RubbedSheets x = full();
        for (int i = 0; i < 140; i++) {
            x.image();
            x.year();
            x.undo();
        }
        isAsFull(x);
    }
}

/** Promises 1 to 8: a new object, question, room, child, learn, forget, childIs, year. */
public final class SchoolTest {
    private static final Due due = new Due();

    public static void main(String[] args) {
        newObject();
        question();
        roomsAndChildren();
        childrenFull();
        learning();
        childIs();
        years();
        due.end("SchoolTest");
    }

    private static void newObject() {
        RubbedSheets x = new RubbedSheets();
        for (int what = 0; what <= 10; what++) {
            due.is("new count " + what, x.count(what), 0);
        }
        for (int which = -1; which <= 6; which++) {
            due.is("new status " + which, x.status(which), 0);
        }
        due.is("new looked", x.looked(), 0);
        due.is("new tear", x.tear(), 0);
        due.is("new undo", x.undo(), Due.NONE);
        for (int q = 0; q < 12; q++) {
            due.is("first key", x.question(q, 0, 3), 0);
            due.is("first hard", x.question(q, 1, 9), 0);
        }
        due.is("first slip is missing", x.write(0, 0, 0), Due.MISSING);
    }

    private static void question() {
        RubbedSheets x = new RubbedSheets();
        due.is("key", x.question(11, 0, 3), 0);
        due.is("key again", x.question(11, 0, 1), 3);
        due.is("hard is apart", x.question(11, 1, 9), 0);
        due.is("hard again", x.question(11, 1, 0), 9);
        due.is("key stays", x.question(11, 0, 1), 1);
        due.is("q below", x.question(-1, 0, 0), Due.BEYOND);
        due.is("q above", x.question(12, 0, 0), Due.BEYOND);
        due.is("what below", x.question(0, -1, 0), Due.BEYOND);
        due.is("what above", x.question(0, 2, 0), Due.BEYOND);
        due.is("key below", x.question(0, 0, -1), Due.BEYOND);
        due.is("key above", x.question(0, 0, 4), Due.BEYOND);
        due.is("hard below", x.question(0, 1, -1), Due.BEYOND);
        due.is("hard above", x.question(0, 1, 10), Due.BEYOND);
        due.is("far", x.question(Integer.MAX_VALUE, Integer.MIN_VALUE, Integer.MAX_VALUE), Due.BEYOND);
        due.is("unchanged", x.question(0, 0, 0), 0);
        due.is("all counted", x.status(0), 9);
    }

    private static void roomsAndChildren() {
        RubbedSheets x = new RubbedSheets();
        due.is("no room yet", x.child(0, 0), Due.BEYOND);
        for (int room = 0; room < 6; room++) {
            due.is("room", x.room(), room);
        }
        due.is("seventh room", x.room(), Due.FULL);
        due.is("rooms", x.count(0), 6);
        due.is("child", x.child(5, 19), 0);
        due.is("seat taken", x.child(5, 19), Due.STATE);
        due.is("seat in another room", x.child(4, 19), 1);
        due.is("room above", x.child(6, 0), Due.BEYOND);
        due.is("room below", x.child(-1, 0), Due.BEYOND);
        due.is("seat above", x.child(5, 20), Due.BEYOND);
        due.is("seat below", x.child(5, -1), Due.BEYOND);
        due.is("children", x.count(1), 2);
    }

    private static void childrenFull() {
        RubbedSheets x = new RubbedSheets();
        x.room();
        x.room();
        for (int child = 0; child < 24; child++) {
            due.is("child", x.child(child / 20, child % 20), child);
        }
        due.is("25th child", x.child(1, 4), Due.FULL);
        due.is("taken goes ahead of full", x.child(1, 3), Due.STATE);
        due.is("beyond goes ahead of full", x.child(2, 3), Due.BEYOND);
        due.is("last child is there", x.childIs(23, 1), 3);
        due.is("no child 24", x.childIs(24, 1), Due.BEYOND);
    }

    private static void learning() {
        RubbedSheets x = new RubbedSheets();
        x.room();
        x.child(0, 0);
        due.is("learn", x.learn(0, 11, false), 1);
        due.is("learn again", x.learn(0, 11, false), 0);
        due.is("taught is new", x.learn(0, 11, true), 1);
        due.is("taught again", x.learn(0, 11, true), 0);
        due.is("untaught changes nothing", x.learn(0, 11, false), 0);
        due.is("still taught", x.childIs(0, 3), 1 << 11);
        due.is("both new", x.learn(0, 0, true), 1);
        due.is("knows", x.childIs(0, 2), 1 | 1 << 11);
        due.is("forget", x.forget(0, 11), 1);
        due.is("forget again", x.forget(0, 11), 0);
        due.is("knows less", x.childIs(0, 2), 1);
        due.is("taught less", x.childIs(0, 3), 1);
        due.is("known again, not taught", x.learn(0, 11, false), 1);
        due.is("taught stays forgotten", x.childIs(0, 3), 1);
        due.is("learn child", x.learn(1, 0, true), Due.BEYOND);
        due.is("learn child below", x.learn(-1, 0, true), Due.BEYOND);
        due.is("learn q", x.learn(0, 12, true), Due.BEYOND);
        due.is("learn q below", x.learn(0, -1, true), Due.BEYOND);
        due.is("forget child", x.forget(1, 0), Due.BEYOND);
        due.is("forget q", x.forget(0, 12), Due.BEYOND);
        due.is("forget q below", x.forget(0, -1), Due.BEYOND);
    }

    private static void childIs() {
        RubbedSheets x = new RubbedSheets();
        x.room();
        x.room();
        x.child(1, 7);
        due.is("room of", x.childIs(0, 0), 1);
        due.is("seat of", x.childIs(0, 1), 7);
        due.is("knows none", x.childIs(0, 2), 0);
        due.is("taught none", x.childIs(0, 3), 0);
        due.is("no sheets", x.childIs(0, 4), 0);
        x.sit(0, 1);
        x.year();
        x.sit(0, 1);
        due.is("two sheets", x.childIs(0, 4), 2);
        x.leaves(0);
        due.is("one sheet", x.childIs(0, 4), 1);
        due.is("what above", x.childIs(0, 5), Due.BEYOND);
        due.is("what below", x.childIs(0, -1), Due.BEYOND);
        due.is("child above", x.childIs(1, 0), Due.BEYOND);
        due.is("child below", x.childIs(-1, 0), Due.BEYOND);
    }

    private static void years() {
        RubbedSheets x = new RubbedSheets();
        for (int year = 1; year <= 5; year++) {
            due.is("year", x.year(), year);
            due.is("open", x.count(8), year);
        }
        due.is("no year 6", x.year(), Due.FULL);
        due.is("open stays", x.count(8), 5);
    }
}

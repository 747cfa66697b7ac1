import java.util.ArrayList;
import java.util.List;

/**
 * All that calls can tell of an object. To look changes it (its tape, its keys, its image), so an object is
 * looked at once and thrown away; two that were alike answer alike. Stays under 400 calls.
 */
final class Seen {
    private static final int CALLS_FOR_SHEETS = 200;
    private final RubbedSheets x;
    private final List<String> told = new ArrayList<>();

    private Seen(RubbedSheets x) {
        this.x = x;
    }

    /** All findings, then each of them. */
    static int[] status(RubbedSheets x) {
        int[] found = new int[8];
        for (int which = -1; which <= 6; which++) {
            found[which + 1] = x.status(which);
        }
        return found;
    }

    static List<String> rest(RubbedSheets x) {
        Seen seen = new Seen(x);
        seen.counts("");
        seen.children();
        seen.keysAndForms();
        seen.ways();
        seen.sheets();
        seen.slips();
        seen.tape();
        seen.questions();
        seen.image();
        return seen.told;
    }

    private int tell(String call, int answer) {
        told.add(call + " = " + answer);
        return answer;
    }

    private void counts(String when) {
        tell("looked()" + when, x.looked());
        for (int what = 0; what <= 10; what++) {
            tell("count(" + what + ")" + when, x.count(what));
        }
    }

    private void children() {
        int children = x.count(1);
        for (int child = 0; child < children; child++) {
            for (int what = 0; what <= 4; what++) {
                tell("childIs(" + child + ", " + what + ")", x.childIs(child, what));
            }
        }
    }

    private void keysAndForms() {
        int rooms = x.count(0);
        for (int room = 0; room < rooms; room++) {
            tell("gaps(" + room + ", 0, 99, 0)", x.gaps(room, 0, 99, 0));
            tell("could(" + room + ", 0, 99, 1)", x.could(room, 0, 99, 1));
            tell("could(" + room + ", 0, 20, 2)", x.could(room, 0, 20, 2));
        }
        for (int kinds = 1; kinds <= 128; kinds *= 2) {
            tell("cheapest(" + kinds + ", 1)", x.cheapest(kinds, 1));
        }
        tell("cheapest(255, 0)", x.cheapest(255, 0));
    }

    private void ways() {
        int ways = x.count(4);
        int year = x.count(8);
        for (int way = 0; way < ways; way++) {
            tell("judges(" + way + ", open, 0)", x.judges(way, year, 0));
            tell("says(" + way + ", 0, open)", x.says(way, 0, year));
        }
    }

    private void sheets() {
        int children = x.count(1);
        for (int year = x.count(8); year >= 0; year--) {
            for (int child = 0; child < children && told.size() < CALLS_FOR_SHEETS; child++) {
                if (tell("sheetIs(" + child + ", " + year + ", 0)", x.sheetIs(child, year, 0)) >= 0) {
                    sheet(child, year);
                }
            }
        }
    }

    private void sheet(int child, int year) {
        for (int what = 2; what <= 4; what++) {
            tell("sheetIs(" + child + ", " + year + ", " + what + ")", x.sheetIs(child, year, what));
        }
        bubbles(child, year);
    }

    private void bubbles(int child, int year) {
        for (int q = 0; q < 12; q++) {
            tell("bubble(" + child + ", " + year + ", " + q + ", 0)", x.bubble(child, year, q, 0));
            tell("bubble(" + child + ", " + year + ", " + q + ", 1)", x.bubble(child, year, q, 1));
        }
    }

    /** Sizes by copies onto themselves, bits by copies of nothing, numbers by sheets of a child that has none. */
    private void slips() {
        for (int s = 0; s < 4; s++) {
            tell("size of slip " + s, size(s));
            for (int t = s + 1; t < 4; t++) {
                tell("copy(" + s + ", 0, " + t + ", 0, 0)", x.copy(s, 0, t, 0, 0));
            }
        }
        int spare = childWithoutSheet();
        for (int s = 0; s < 4 && spare >= 0; s++) {
            if (tell("read(" + spare + ", " + s + ")", x.read(spare, s)) >= 0) {
                bubbles(spare, x.count(8));
                x.leaves(spare);
            }
        }
    }

    private int size(int s) {
        int size = x.copy(s, 0, s, 0, 0);
        for (int step = 16; step > 0 && size >= 0; step /= 2) {
            size = x.copy(s, 0, s, 0, size + step) >= 0 ? size + step : size;
        }
        return size;
    }

    private int childWithoutSheet() {
        int children = x.count(1);
        for (int child = 0; child < children; child++) {
            if (x.sheetIs(child, x.count(8), 0) < 0) {
                return child;
            }
        }
        return -1;
    }

    private void tape() {
        int way = tell("way()", x.way());
        if (way >= 0) {
            tell("says(" + way + ", 0, open)", x.says(way, 0, x.count(8)));
        }
        tell("wipe()", x.wipe());
    }

    private void questions() {
        for (int q = 0; q < 12; q++) {
            tell("key of " + q, x.question(q, 0, 0));
            tell("hard of " + q, x.question(q, 1, 0));
        }
    }

    private void image() {
        if (tell("undo()", x.undo()) >= 0) {
            counts(" of the image");
        }
        tell("tear()", x.tear());
    }
}

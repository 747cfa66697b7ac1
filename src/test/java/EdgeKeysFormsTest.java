/** The edges of sections 5 and 6 and of promises 31 to 35: who holds keys, gaps, forms of testing. */
public final class EdgeKeysFormsTest {
    private static final Edge edge = new Edge("EdgeKeysFormsTest");

    public static void main(String[] args) {
        holdsRanges();
        holdsHours();
        holdsFull();
        gapsRanges();
        gaps();
        couldRanges();
        could();
        formRanges();
        formsFull();
        cheapestRanges();
        cheapestEdges();
        barsThoseUnder();
        cheapestTies();
        edge.end();
    }

    private static void holdsRanges() {
        edge.says(31, "BEYOND: person (0 to 9)");
        edge.lets(States::school, 0, 9, (x, v) -> x.holds(v, 0, 0, 1));
        edge.says(31, "BEYOND: ROOM");
        edge.lets(States::school, 0, 1, (x, v) -> x.holds(0, v, 0, 1));
        edge.lets(() -> States.rooms(6), 0, 5, (x, v) -> x.holds(0, v, 0, 1));
        edge.letsNoOther(States::fresh, 1, 0, (x, v) -> x.holds(0, v, 0, 1));
        edge.says(31, "BEYOND: HOURS (0 to 99)");
        edge.lets(States::school, 0, 98, (x, v) -> x.holds(0, 0, v, 99));
        edge.lets(States::school, 1, 99, (x, v) -> x.holds(0, 0, 0, v));
        edge.refuses(States::school, Edge.BEYOND, x -> x.holds(0, 0, 99, 100), x -> x.holds(0, 0, -1, 0),
                x -> x.holds(0, 0, -2, -1), x -> x.holds(0, 0, 100, 101));
        edge.says(31, "BEYOND: (to is above from)");
        edge.refuses(States::school, Edge.BEYOND, x -> x.holds(0, 0, 0, 0), x -> x.holds(0, 0, 99, 99),
                x -> x.holds(0, 0, 50, 49), x -> x.holds(0, 0, 99, 0),
                x -> x.holds(0, 0, Integer.MAX_VALUE, Integer.MIN_VALUE),
                x -> x.holds(0, 0, Integer.MIN_VALUE, Integer.MAX_VALUE));
        edge.answers(States::school, 3, x -> x.holds(0, 0, 0, 1), x -> x.holds(0, 0, 98, 99), x -> x.holds(0, 0, 49, 50));
    }

    private static void holdsHours() {
        edge.says(0, "from an HOUR on to ahead of another one");
        RubbedSheets x = States.rooms(1);
        x.holds(7, 0, 10, 12);
        for (int hour = 8; hour <= 13; hour++) {
            boolean held = hour == 10 || hour == 11;
            edge.is("gap at " + hour, x.gaps(0, hour, hour + 1, 0), held ? 0 : 1);
            edge.is("could at " + hour, x.could(0, hour, hour + 1, 1), held ? 128 : 0);
        }
        edge.says(0, "HOURS (0 to 99): the first and the last that can be held");
        RubbedSheets y = States.rooms(1);
        y.holds(0, 0, 0, 1);
        y.holds(9, 0, 98, 99);
        edge.is("all but two are gaps", y.gaps(0, 0, 99, 0), 97);
        edge.is("the first gap", y.gaps(0, 0, 99, 1), 1);
        edge.is("who could", y.could(0, 0, 99, 1), 513);
        edge.says(0, "PERSONS HOLD a ROOM's keys: no other ROOM's");
        RubbedSheets z = States.rooms(3);
        z.holds(3, 1, 0, 99);
        edge.is("the one ahead", z.gaps(0, 0, 99, 0), 99);
        edge.is("it", z.gaps(1, 0, 99, 0), 0);
        edge.is("the one behind", z.could(2, 0, 99, 1), 0);
    }

    private static void holdsFull() {
        edge.says(31, "how many such there are: of all ROOMS, alike ones, too");
        RubbedSheets x = States.rooms(6);
        for (int i = 0; i < 30; i++) {
            edge.is("holds()", x.holds(9, i % 6, 3, 4), i + 1);
            edge.is("held", x.count(6), i + 1);
        }
        edge.says(31, "FULL (at most 30 such)");
        edge.is("31st", x.holds(0, 0, 0, 1), Edge.FULL);
        edge.is("one that is there", x.holds(9, 0, 3, 4), Edge.FULL);
        edge.is("held", x.count(6), 30);
        edge.refuses(States::brim, Edge.FULL, y -> y.holds(0, 0, 0, 1), y -> y.holds(9, 5, 98, 99));
        edge.says(31, "BEYOND is asked ahead of FULL");
        edge.refuses(States::brim, Edge.BEYOND, y -> y.holds(10, 0, 0, 1), y -> y.holds(-1, 0, 0, 1),
                y -> y.holds(0, 6, 0, 1), y -> y.holds(0, -1, 0, 1), y -> y.holds(0, 0, 1, 1), y -> y.holds(0, 0, 0, 100));
        edge.says(0, "at most 30 such: the last of them counts");
        RubbedSheets z = States.rooms(1);
        for (int i = 0; i < 30; i++) {
            z.holds(i < 29 ? 0 : 5, 0, i, i + 1);
        }
        edge.is("the 30th", z.could(0, 29, 30, 1), 32);
        edge.is("the 29th", z.could(0, 28, 29, 1), 1);
    }

    private static void gapsRanges() {
        edge.says(32, "BEYOND: no such ROOM");
        edge.lets(States::school, 0, 1, (x, v) -> x.gaps(v, 0, 99, 0));
        edge.lets(States::brim, 0, 5, (x, v) -> x.gaps(v, 0, 99, 0));
        edge.letsNoOther(States::fresh, 1, 0, (x, v) -> x.gaps(v, 0, 99, 0));
        edge.says(32, "BEYOND: HOURS (0 to 99)");
        edge.lets(States::school, 0, 98, (x, v) -> x.gaps(0, v, 99, 0));
        edge.lets(States::school, 1, 99, (x, v) -> x.gaps(0, 0, v, 0));
        edge.says(32, "BEYOND: HOURS (to is above from)");
        edge.refuses(States::school, Edge.BEYOND, x -> x.gaps(0, 0, 0, 0), x -> x.gaps(0, 99, 99, 0),
                x -> x.gaps(0, 50, 49, 0), x -> x.gaps(0, 99, 100, 0), x -> x.gaps(0, -1, 0, 0),
                x -> x.gaps(0, Integer.MIN_VALUE, Integer.MAX_VALUE, 0));
        edge.says(32, "what 0 how many, 1 the first: no other what");
        edge.lets(States::school, 0, 1, (x, v) -> x.gaps(0, 0, 99, v));
        edge.lets(States::brim, 0, 1, (x, v) -> x.gaps(5, 98, 99, v));
    }

    private static void gaps() {
        edge.says(32, "how many: all, if nobody HOLDS them");
        edge.idles(() -> States.rooms(1), 99, x -> x.gaps(0, 0, 99, 0));
        edge.idles(() -> States.rooms(1), 1, x -> x.gaps(0, 98, 99, 0));
        edge.says(32, "the first: from itself");
        edge.idles(() -> States.rooms(1), 98, x -> x.gaps(0, 98, 99, 1));
        edge.idles(() -> States.rooms(1), 0, x -> x.gaps(0, 0, 1, 1));
        edge.says(32, "how many: none; the first (-1: none)");
        RubbedSheets x = States.rooms(1);
        x.holds(0, 0, 5, 8);
        x.holds(1, 0, 8, 10);
        edge.is("how many", x.gaps(0, 5, 10, 0), 0);
        edge.is("the first", x.gaps(0, 5, 10, 1), -1);
        edge.says(32, "from an HOUR on to ahead of another one");
        edge.is("one ahead", x.gaps(0, 4, 10, 0), 1);
        edge.is("it is the first", x.gaps(0, 4, 10, 1), 4);
        edge.is("one behind", x.gaps(0, 5, 11, 0), 1);
        edge.is("it is the first", x.gaps(0, 5, 11, 1), 10);
        edge.is("both", x.gaps(0, 4, 11, 0), 2);
        edge.says(0, "GAPS: HOURS in which nobody HOLDS: two at once leave no more of them");
        x.holds(2, 0, 5, 10);
        edge.is("still two", x.gaps(0, 4, 11, 0), 2);
    }

    private static void couldRanges() {
        edge.says(33, "BEYOND: no such ROOM");
        edge.lets(States::school, 0, 1, (x, v) -> x.could(v, 0, 99, 1));
        edge.lets(States::brim, 0, 5, (x, v) -> x.could(v, 0, 99, 1));
        edge.letsNoOther(States::fresh, 1, 0, (x, v) -> x.could(v, 0, 99, 1));
        edge.says(33, "BEYOND: HOURS (0 to 99)");
        edge.lets(States::school, 0, 98, (x, v) -> x.could(0, v, 99, 1));
        edge.lets(States::school, 1, 99, (x, v) -> x.could(0, 0, v, 1));
        edge.says(33, "BEYOND: HOURS (to is above from)");
        edge.refuses(States::school, Edge.BEYOND, x -> x.could(0, 0, 0, 1), x -> x.could(0, 99, 99, 1),
                x -> x.could(0, 50, 49, 1), x -> x.could(0, 99, 100, 1), x -> x.could(0, -1, 0, 1),
                x -> x.could(0, Integer.MIN_VALUE, Integer.MAX_VALUE, 1));
        edge.says(33, "n (1 to 99)");
        edge.lets(States::school, 1, 99, (x, v) -> x.could(0, 0, 99, v));
        edge.lets(States::brim, 1, 99, (x, v) -> x.could(5, 0, 1, v));
    }

    private static void could() {
        edge.says(33, "in at least n: as many are enough, one fewer is not");
        RubbedSheets x = States.rooms(1);
        x.holds(3, 0, 10, 20);
        edge.is("ten", x.could(0, 0, 99, 10), 8);
        edge.is("eleven", x.could(0, 0, 99, 11), 0);
        edge.says(33, "in at least n: all 99 HOURS");
        x.holds(9, 0, 0, 99);
        edge.is("99", x.could(0, 0, 99, 99), 512);
        edge.is("98 of 98", x.could(0, 1, 99, 98), 512);
        edge.is("99 of 98", x.could(0, 1, 99, 99), 0);
        edge.says(33, "in at least n of these HOURS: the HOURS asked for alone");
        edge.is("the last two of them", x.could(0, 18, 99, 2), 520);
        edge.is("not three", x.could(0, 18, 99, 3), 512);
        edge.is("the first two of them", x.could(0, 0, 12, 2), 520);
        edge.is("not three of the first", x.could(0, 0, 12, 3), 512);
        edge.says(0, "COULD: PERSONS who HOLD them in at least so many HOURS: an HOUR counts once");
        RubbedSheets y = States.rooms(1);
        y.holds(2, 0, 0, 3);
        y.holds(2, 0, 0, 3);
        y.holds(2, 0, 2, 5);
        edge.is("five", y.could(0, 0, 99, 5), 4);
        edge.is("not six", y.could(0, 0, 99, 6), 0);
        edge.says(0, "COULD: HOURS need not be in a row");
        RubbedSheets w = States.rooms(1);
        w.holds(0, 0, 0, 2);
        w.holds(0, 0, 90, 91);
        edge.is("three", w.could(0, 0, 99, 3), 1);
        edge.says(33, "as a set: nobody, everybody");
        edge.idles(() -> States.rooms(1), 0, z -> z.could(0, 0, 99, 1));
        RubbedSheets z = States.rooms(1);
        for (int person = 0; person < 10; person++) {
            z.holds(person, 0, 0, 1);
        }
        edge.is("everybody", z.could(0, 0, 99, 1), 1023);
    }

    private static void formRanges() {
        edge.says(34, "BEYOND: price (0 to 99)");
        edge.lets(States::school, 0, 99, (x, v) -> x.form(v, 0));
        edge.says(34, "BEYOND: bars (0 to 255)");
        edge.lets(States::school, 0, 255, (x, v) -> x.form(0, v));
    }

    private static void formsFull() {
        edge.says(0, "FORMS 0, 1, .. (at most 8)");
        RubbedSheets x = States.fresh();
        for (int form = 0; form < 8; form++) {
            edge.is("form()", x.form(0, 0), form);
            edge.is("forms", x.count(5), form + 1);
        }
        edge.says(34, "FULL");
        edge.is("ninth", x.form(0, 255), Edge.FULL);
        edge.is("forms", x.count(5), 8);
        edge.is("it bars nothing", x.cheapest(1, 0), Edge.NONE);
        edge.refuses(States::brim, Edge.FULL, y -> y.form(0, 0), y -> y.form(99, 255));
        edge.says(34, "BEYOND is asked ahead of FULL");
        edge.refuses(States::brim, Edge.BEYOND, y -> y.form(100, 0), y -> y.form(-1, 0), y -> y.form(0, 256),
                y -> y.form(0, -1));
    }

    private static void cheapestRanges() {
        edge.says(35, "a set of kinds (0 to 255)");
        edge.lets(States::brim, 0, 255, (x, v) -> x.cheapest(v, 0));
        edge.letsNoOther(States::school, 0, 255, (x, v) -> x.cheapest(v, 0));
        edge.says(35, "what 0 PRICES together, 1 the set of FORMS: no other what");
        edge.lets(States::brim, 0, 1, (x, v) -> x.cheapest(255, v));
        edge.lets(States::school, 0, 1, (x, v) -> x.cheapest(0, v));
        edge.says(35, "NONE: all FORMS don't");
        edge.refuses(States::fresh, Edge.NONE, x -> x.cheapest(1, 0), x -> x.cheapest(128, 1), x -> x.cheapest(255, 0));
        edge.refuses(States::school, Edge.NONE, x -> x.cheapest(1, 0), x -> x.cheapest(8, 0), x -> x.cheapest(16, 1),
                x -> x.cheapest(2 + 8, 0), x -> x.cheapest(255, 1));
        edge.says(35, "BEYOND is asked ahead of NONE");
        edge.refuses(States::fresh, Edge.BEYOND, x -> x.cheapest(1, 2), x -> x.cheapest(1, -1), x -> x.cheapest(256, 0),
                x -> x.cheapest(-1, 0));
    }

    private static void cheapest(RubbedSheets x, int kinds, int price, int forms) {
        edge.is("PRICES for " + kinds, x.cheapest(kinds, 0), price);
        edge.is("FORMS for " + kinds, x.cheapest(kinds, 1), forms);
    }

    private static void cheapestEdges() {
        edge.says(35, "CHEAPEST for a set of kinds: for none no FORMS, with or without any");
        cheapest(States.fresh(), 0, 0, 0);
        cheapest(States.brim(), 0, 0, 0);
        edge.says(35, "PRICES together: all eight FORMS at 99");
        RubbedSheets x = States.fresh();
        for (int form = 0; form < 8; form++) {
            x.form(99, form < 6 ? new int[] {4, 8, 16, 64, 128, 0}[form] : 0);
        }
        cheapest(x, 4 + 8 + 16 + 64 + 128, 495, 31);
        cheapest(x, 128, 99, 16);
        RubbedSheets y = States.fresh();
        for (int form = 0; form < 7; form++) {
            y.form(99, 0);
        }
        y.form(99, 1);
        cheapest(y, 255, 99, 128);
        edge.says(0, "a PRICE (0 to 99): FORMS for nothing");
        RubbedSheets z = States.fresh();
        z.form(0, 8);
        z.form(0, 16);
        cheapest(z, 24, 0, 3);
        cheapest(z, 8, 0, 1);
        edge.says(35, "for the least PRICES together: many may be cheaper than one");
        RubbedSheets w = States.fresh();
        w.form(7, 8 + 16 + 64);
        w.form(2, 8);
        w.form(2, 16);
        w.form(2, 64);
        cheapest(w, 8 + 16 + 64, 6, 14);
        edge.says(35, "bar all of these: a FORM may bar more");
        RubbedSheets v = States.fresh();
        v.form(3, 1);
        v.form(9, 8);
        cheapest(v, 8, 3, 1);
    }

    private static void barsThoseUnder() {
        int[] under = {255, 134, 4, 8, 16, 96, 64, 128};
        for (int kind = 0; kind < 8; kind++) {
            edge.says(0, "who bars a kind (" + kind + "), bars those under it, and no others");
            RubbedSheets x = States.fresh();
            x.form(1, 1 << kind);
            for (int other = 0; other < 8; other++) {
                boolean bars = (under[kind] >> other & 1) == 1;
                edge.is("bars " + other, x.cheapest(1 << other, 0), bars ? 1 : Edge.NONE);
            }
            edge.is("bars all of them at once", x.cheapest(under[kind], 1), 1);
        }
        edge.says(0, "bar kinds of HANDS (a set): an empty one bars nothing");
        RubbedSheets x = States.fresh();
        x.form(0, 0);
        for (int kind = 0; kind < 8; kind++) {
            edge.is("bars " + kind, x.cheapest(1 << kind, 0), Edge.NONE);
        }
        edge.says(0, "bar kinds of HANDS (a set): all kinds under HAND don't bar HAND");
        RubbedSheets y = States.fresh();
        y.form(0, 254);
        edge.is("HAND", y.cheapest(1, 0), Edge.NONE);
        edge.is("all but HAND", y.cheapest(254, 1), 1);
    }

    private static void cheapestTies() {
        edge.says(0, "of several the fewest FORMS");
        RubbedSheets x = States.fresh();
        x.form(2, 8);
        x.form(2, 16);
        x.form(4, 8 + 16);
        cheapest(x, 24, 4, 4);
        RubbedSheets y = States.fresh();
        y.form(0, 0);
        y.form(5, 8);
        cheapest(y, 8, 5, 2);
        edge.says(0, "then the least set");
        RubbedSheets z = States.fresh();
        z.form(3, 8);
        z.form(3, 8);
        z.form(3, 1);
        cheapest(z, 8, 3, 1);
        RubbedSheets w = States.fresh();
        w.form(2, 8);
        w.form(2, 16);
        w.form(2, 16);
        w.form(2, 8);
        cheapest(w, 24, 4, 3);
        RubbedSheets v = States.fresh();
        v.form(1, 16);
        v.form(1, 8);
        v.form(1, 64);
        v.form(1, 8 + 64);
        v.form(1, 16 + 64);
        cheapest(v, 8 + 16 + 64, 2, 9);
    }
}

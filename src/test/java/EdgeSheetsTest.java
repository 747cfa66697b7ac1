/** The edges of promises 17 to 20: what a sheet tells, what hands weigh, choices as those of a kind. */
public final class EdgeSheetsTest {
    private static final Edge edge = new Edge("EdgeSheetsTest");
    private static final int MIN = Integer.MIN_VALUE;
    private static final int MAX = Integer.MAX_VALUE;

    public static void main(String[] args) {
        bubbleRanges();
        bubbleValues();
        sheetIsRanges();
        sheetIsEmptyAndFull();
        unfitPairs();
        puts();
        weightRanges();
        weightGoesRound();
        asRanges();
        asKinds();
        edge.end();
    }

    private static void bubbleRanges() {
        edge.says(17, "BEYOND: no such CHILD");
        edge.letsNoOther(States::school, 0, 3, (x, v) -> x.bubble(v, 0, 0, 0));
        edge.lets(EdgeSheetsTest::allOfYear5, 0, 23, (x, v) -> x.bubble(v, 5, 0, 0));
        edge.says(17, "BEYOND: no such YEAR");
        edge.lets(States::brim, 0, 5, (x, v) -> x.bubble(23, v, 0, 0));
        edge.letsNoOther(States::school, 0, 5, (x, v) -> x.bubble(0, v, 0, 0));
        edge.says(17, "BEYOND: no such QUESTION");
        edge.lets(States::school, 0, 11, (x, v) -> x.bubble(0, 0, v, 0));
        edge.lets(States::brim, 0, 11, (x, v) -> x.bubble(23, 5, v, 1));
        edge.says(17, "what 0 the choice, 1 the kind, 2 1 if it is RIGHT: no other what");
        edge.lets(States::school, 0, 2, (x, v) -> x.bubble(0, 0, 0, v));
        edge.lets(States::brim, 0, 2, (x, v) -> x.bubble(23, 5, 11, v));
        edge.says(17, "NONE: there is no such SHEET");
        edge.refuses(States::school, Edge.NONE, x -> x.bubble(2, 0, 0, 0), x -> x.bubble(1, 1, 0, 0),
                x -> x.bubble(0, 2, 0, 0), x -> x.bubble(0, 5, 0, 0));
        edge.says(17, "BEYOND is asked ahead of NONE");
        edge.refuses(States::school, Edge.BEYOND, x -> x.bubble(2, 0, 12, 0), x -> x.bubble(2, 0, -1, 0),
                x -> x.bubble(2, 0, 0, 3), x -> x.bubble(2, 0, 0, -1), x -> x.bubble(2, 6, 0, 0));
    }

    private static RubbedSheets allOfYear5() {
        RubbedSheets x = States.brim();
        for (int child = 1; child < 23; child++) {
            x.sit(child, child);
        }
        return x;
    }

    private static void bubbleValues() {
        edge.says(17, "the choice (-1: BLANK), from 0 to 3");
        RubbedSheets x = States.sheets("0123.......0");
        edge.choices(x, 0, 0, "0123.......0");
        edge.says(17, "1 if it is RIGHT, else 0");
        edge.is("the KEY", x.bubble(0, 0, 0, 2), 1);
        edge.is("not the KEY", x.bubble(0, 0, 1, 2), 0);
        edge.is("BLANK", x.bubble(0, 0, 4, 2), 0);
        edge.is("the last", x.bubble(0, 0, 11, 2), 1);
        edge.says(17, "the kind of the HAND, from 0 to 7");
        for (int kind = 0; kind < 8; kind++) {
            x.mark(0, 4 + kind, kind, 1);
        }
        edge.kinds(x, 0, 0, "000001234567");
        edge.says(17, "of a QUESTION on a CHILD's SHEET of a YEAR: to ask changes nothing");
        edge.idles(States::school, 3, y -> y.bubble(0, 0, 0, 0));
        edge.idles(States::school, 4, y -> y.bubble(0, 0, 0, 1));
        edge.idles(States::school, 0, y -> y.bubble(0, 0, 0, 2));
    }

    private static void sheetIsRanges() {
        edge.says(18, "BEYOND: no such CHILD");
        edge.letsNoOther(States::school, 0, 3, (x, v) -> x.sheetIs(v, 0, 0));
        edge.lets(EdgeSheetsTest::allOfYear5, 0, 23, (x, v) -> x.sheetIs(v, 5, 0));
        edge.says(18, "BEYOND: no such YEAR");
        edge.lets(States::brim, 0, 5, (x, v) -> x.sheetIs(23, v, 0));
        edge.letsNoOther(States::school, 0, 5, (x, v) -> x.sheetIs(0, v, 0));
        edge.says(18, "what 0 how many are RIGHT .. 6 PUTS: no other what");
        edge.lets(States::school, 0, 6, (x, v) -> x.sheetIs(0, 0, v));
        edge.lets(States::brim, 0, 6, (x, v) -> x.sheetIs(23, 5, v));
        edge.says(18, "NONE");
        edge.refuses(States::school, Edge.NONE, x -> x.sheetIs(2, 0, 0), x -> x.sheetIs(1, 1, 6),
                x -> x.sheetIs(0, 2, 0), x -> x.sheetIs(0, 5, 0));
        edge.says(18, "BEYOND is asked ahead of NONE");
        edge.refuses(States::school, Edge.BEYOND, x -> x.sheetIs(2, 0, 7), x -> x.sheetIs(2, 0, -1),
                x -> x.sheetIs(2, 6, 0), x -> x.sheetIs(2, -1, 0));
    }

    private static void sheetIs(RubbedSheets x, int... wants) {
        for (int what = 0; what < wants.length; what++) {
            edge.is("sheetIs " + what, x.sheetIs(0, 0, what), wants[what]);
        }
    }

    private static void sheetIsEmptyAndFull() {
        edge.says(18, "how many are RIGHT, BLANK: all BLANK");
        sheetIs(States.sheets("............"), 0, 12, 0, 0, 0, 0, 0);
        edge.says(18, "how many are RIGHT, BLANK: all RIGHT");
        sheetIs(States.sheets("000000000000"), 12, 0, 0, 0, 0, 0, 0);
        edge.says(18, "how many are RIGHT, BLANK: all wrong");
        sheetIs(States.sheets("123123123123"), 0, 0, 0, 0, 0, 0, 0);
        edge.says(18, "WR, RW, RUBBED wrong to wrong: of this SHEET alone, with those that were RUBBED again");
        RubbedSheets x = States.sheets("0...........", "0...........");
        for (int turn = 0; turn < 20; turn++) {
            x.mark(0, 0, 0, 1);
            x.mark(0, 0, 0, 2);
            x.mark(0, 0, 0, 0);
        }
        sheetIs(x, 1, 11, 20, 20, 20, 0, 0);
        edge.rubbed(x, 1, 0, 0, 0, 0);
        edge.says(18, "of a SHEET: to ask changes nothing");
        edge.idles(States::school, 1, y -> y.sheetIs(0, 0, 2), y -> y.sheetIs(0, 0, 3), y -> y.sheetIs(0, 0, 4));
    }

    private static void unfitPairs() {
        edge.says(0, "UNFIT pairs: the first one HARDER (as HARD is none)");
        RubbedSheets x = States.sheets("0...........");
        edge.is("all as HARD", x.sheetIs(0, 0, 5), 0);
        x.question(0, 1, 1);
        edge.is("by one", x.sheetIs(0, 0, 5), 11);
        x.question(1, 1, 1);
        edge.is("one as HARD", x.sheetIs(0, 0, 5), 10);
        x.question(2, 1, 2);
        edge.is("one HARDER", x.sheetIs(0, 0, 5), 9);
        edge.says(0, "UNFIT pairs: one RIGHT and one not (BLANK is not)");
        RubbedSheets y = States.sheets("01.000000000");
        y.question(0, 1, 9);
        edge.is("a wrong and a BLANK one", y.sheetIs(0, 0, 5), 2);
        y.question(1, 0, 1);
        edge.is("a BLANK one", y.sheetIs(0, 0, 5), 1);
        edge.says(0, "UNFIT pairs: the most there can be");
        RubbedSheets z = States.sheets("111111000000");
        for (int q = 6; q < 12; q++) {
            z.question(q, 1, 9);
        }
        edge.is("six by six", z.sheetIs(0, 0, 5), 36);
        for (int q = 0; q < 6; q++) {
            z.question(q, 1, 9);
            edge.is("less " + q, z.sheetIs(0, 0, 5), 36 - 6 * (q + 1));
        }
        edge.says(0, "UNFIT pairs: the HARD one is not RIGHT: none");
        RubbedSheets w = States.sheets("100000000000");
        w.question(0, 1, 9);
        edge.is("fits", w.sheetIs(0, 0, 5), 0);
    }

    private static void puts() {
        edge.says(0, "PUTS how many choices stand by PUT (and under): no other kind");
        for (int kind = 0; kind < 8; kind++) {
            RubbedSheets x = States.sheets("000000000000");
            x.mark(0, 0, kind, 1);
            x.mark(0, 11, kind, 2);
            edge.is("by kind " + kind, x.sheetIs(0, 0, 6), kind == 5 || kind == 6 ? 2 : 0);
        }
        edge.says(0, "PUTS how many choices: BLANK by PUT is none");
        RubbedSheets x = States.sheets("000000000000");
        x.mark(0, 0, 5, -1);
        x.mark(0, 1, 6, -1);
        edge.is("two BLANK ones", x.sheetIs(0, 0, 6), 0);
        edge.says(0, "PUTS how many choices stand: wrong ones, too, but none that another HAND MARKED since");
        x.mark(0, 0, 5, 3);
        edge.is("a wrong one", x.sheetIs(0, 0, 6), 1);
        x.mark(0, 0, 0, 0);
        edge.is("none", x.sheetIs(0, 0, 6), 0);
        edge.says(0, "PUTS: all of a SHEET");
        RubbedSheets y = States.sheets("1111........");
        y.puts(0, 99);
        y.fills(0);
        edge.is("twelve", y.sheetIs(0, 0, 6), 12);
    }

    private static void weightRanges() {
        edge.says(19, "BEYOND: kind");
        edge.lets(States::school, 0, 7, (x, v) -> x.weight(v, 0));
        edge.lets(States::fresh, 0, 7, (x, v) -> x.weight(v, 1));
        edge.refuses(States::school, Edge.BEYOND, x -> x.weight(8, MIN), x -> x.weight(-1, MAX));
    }

    private static void weight(int n, int... wants) {
        for (int kind = 0; kind < 8; kind++) {
            int k = kind;
            edge.idles(States::fresh, wants[kind], x -> x.weight(k, n));
        }
    }

    private static void weightGoesRound() {
        edge.says(19, "of n MARKS: around 0");
        weight(0, 0, 2, 6, 0, -1, 0, 0, 1);
        weight(1, 1, 3, 9, 0, 0, -1, -2, 2);
        weight(-1, -1, 1, 3, 0, -2, 1, 2, 0);
        weight(-2, -2, 0, 0, -1, -3, 2, 4, -1);
        edge.says(0, "Quotients are cut");
        weight(3, 3, 5, 15, 1, 2, -3, -6, 4);
        weight(-3, -3, -1, -3, -1, -4, 3, 6, -2);
        weight(7, 7, 9, 27, 3, 6, -7, -14, 8);
        weight(-7, -7, -5, -15, -3, -8, 7, 14, -6);
        edge.says(19, "(any int; ints that go round): the greatest ones");
        weight(MAX, MAX, MIN + 1, -2147483645, 1073741823, MAX - 1, MIN + 1, 2, MIN);
        weight(MAX - 1, MAX - 1, MIN, MIN, 1073741823, MAX - 2, MIN + 2, 4, MAX);
        weight(MAX - 2, MAX - 2, MAX, 2147483645, 1073741822, MAX - 3, MIN + 3, 6, MAX - 1);
        edge.says(19, "(any int; ints that go round): the least ones");
        weight(MIN, MIN, MIN + 2, MIN + 6, -1073741824, MAX, MIN, 0, MIN + 1);
        weight(MIN + 1, MIN + 1, MIN + 3, MIN + 9, -1073741823, MIN, MAX, -2, MIN + 2);
        edge.says(19, "(any int; ints that go round): thrice goes round earlier");
        weight(715827880, 715827880, 715827882, 2147483646, 357913940, 715827879, -715827880, -1431655760, 715827881);
        weight(715827881, 715827881, 715827883, -2147483647, 357913940, 715827880, -715827881, -1431655762, 715827882);
    }

    private static void asRanges() {
        edge.says(20, "BEYOND: no such CHILD");
        edge.letsNoOther(States::school, 0, 3, (x, v) -> x.as(v, 0, 0, 0));
        edge.lets(EdgeSheetsTest::allOfYear5, 0, 23, (x, v) -> x.as(v, 5, 0, 0));
        edge.says(20, "BEYOND: no such YEAR");
        edge.lets(States::brim, 0, 5, (x, v) -> x.as(23, v, 0, 0));
        edge.letsNoOther(States::school, 0, 5, (x, v) -> x.as(0, v, 0, 0));
        edge.says(20, "BEYOND: no such QUESTION");
        edge.lets(States::school, 0, 11, (x, v) -> x.as(0, 0, v, 0));
        edge.lets(States::brim, 0, 11, (x, v) -> x.as(23, 5, v, 0));
        edge.says(20, "BEYOND: no such kind");
        edge.letsNoOther(States::school, 0, 7, (x, v) -> x.as(0, 0, 0, v));
        edge.says(20, "NONE: there is no such SHEET");
        edge.refuses(States::school, Edge.NONE, x -> x.as(2, 0, 0, 0), x -> x.as(1, 1, 0, 0), x -> x.as(0, 2, 0, 0));
        edge.says(20, "BEYOND is asked ahead of NONE");
        edge.refuses(States::school, Edge.BEYOND, x -> x.as(2, 0, 12, 0), x -> x.as(2, 0, -1, 0), x -> x.as(2, 0, 0, 8),
                x -> x.as(2, 0, 0, -1));
        edge.says(20, "BEYOND and NONE are asked ahead of KIND");
        edge.refuses(States::school, Edge.BEYOND, x -> x.as(0, 0, 12, 6), x -> x.as(0, 6, 0, 6));
        edge.refuses(States::school, Edge.NONE, x -> x.as(2, 0, 0, 6), x -> x.as(0, 5, 0, 6));
    }

    /** For each kind those it stands as: itself and all above it. */
    private static final int[][] STANDS_AS = {{0}, {0, 1}, {0, 1, 2}, {0, 3}, {0, 4}, {0, 5}, {0, 5, 6}, {0, 1, 7}};

    private static boolean standsAs(int kind, int other) {
        for (int k : STANDS_AS[kind]) {
            if (k == other) {
                return true;
            }
        }
        return false;
    }

    private static RubbedSheets markedBy(int kind) {
        RubbedSheets x = States.sheets("000000000000");
        x.mark(0, 0, kind, 3);
        x.mark(0, 11, kind, -1);
        return x;
    }

    private static void asKinds() {
        for (int kind = 0; kind < 8; kind++) {
            int k = kind;
            edge.says(20, "KIND: the HAND (" + kind + ") isn't of that kind, nor of one under it");
            for (int other = 0; other < 8; other++) {
                int o = other;
                if (standsAs(kind, other)) {
                    edge.idles(() -> markedBy(k), 3, x -> x.as(0, 0, 0, o));
                    edge.idles(() -> markedBy(k), -1, x -> x.as(0, 0, 11, o));
                } else {
                    edge.refuses(() -> markedBy(k), Edge.KIND, x -> x.as(0, 0, 0, o), x -> x.as(0, 0, 11, o));
                }
            }
        }
        edge.says(20, "the choice (-1 if BLANK): one that no HAND MARKED is by HAND alone");
        edge.idles(() -> States.sheets("............"), -1, x -> x.as(0, 0, 0, 0));
        for (int other = 1; other < 8; other++) {
            int o = other;
            edge.refuses(() -> States.sheets("............"), Edge.KIND, x -> x.as(0, 0, 0, o));
        }
    }
}

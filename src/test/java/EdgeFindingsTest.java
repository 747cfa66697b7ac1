/** The edges of what the document says of findings and of an object's 512 calls. */
public final class EdgeFindingsTest {
    private static final Edge edge = new Edge("EdgeFindingsTest");

    public static void main(String[] args) {
        numbers();
        weightIsNone();
        faultIsNone();
        last512();
        edge.end();
    }

    private static void numbers() {
        edge.says(0, "FINDINGS: -1000001 BEYOND");
        edge.refuses(States::school, -1000001, x -> x.leaves(4));
        edge.says(0, "FINDINGS: -1000002 FULL");
        edge.refuses(States::brim, -1000002, x -> x.year());
        edge.says(0, "FINDINGS: -1000003 KIND");
        edge.refuses(States::school, -1000003, x -> x.copy(0, 0, 1, 0, 0));
        edge.says(0, "FINDINGS: -1000004 NONE");
        edge.refuses(States::school, -1000004, x -> x.leaves(2));
        edge.says(0, "FINDINGS: -1000005 STATE");
        edge.refuses(States::school, -1000005, x -> x.child(1, 19));
        edge.says(0, "FINDINGS: -1000006 MISSING");
        edge.refuses(States::school, -1000006, x -> x.write(3, 0, 0));
        edge.says(0, "FINDINGS: -1000007 SIZE");
        edge.refuses(States::school, -1000007, x -> x.slip(0, 8, -1));
    }

    private static void weightIsNone() {
        edge.says(0, "What weight() tells may be any int: that is no finding");
        for (int finding = -1000007; finding <= -1000001; finding++) {
            int n = finding;
            edge.idles(States::school, n, x -> x.weight(0, n), x -> x.weight(4, n + 1), x -> x.weight(5, -n));
        }
        edge.idles(States::school, Integer.MIN_VALUE, x -> x.weight(0, Integer.MIN_VALUE));
    }

    private static void faultIsNone() {
        edge.says(27, "-1 less its place (no finding ..)");
        RubbedSheets x = States.school();
        int found = x.status(-1);
        Due.feed(x, "#");
        edge.is("the fault behind fit", x.way(), -4);
        edge.is("findings", x.status(-1), found);
    }

    /** Each of the 512 calls counts; none of them is the last that is told the truth. */
    private static void last512() {
        edge.says(0, "An object is used for at most 512 calls: refused ones are counted up to the last");
        RubbedSheets x = new RubbedSheets();
        for (int call = 1; call <= 511; call++) {
            x.fills(0);
        }
        edge.is("the 512th call", x.status(-1), 511);
        edge.says(0, "An object is used for at most 512 calls: what is looked at is counted up to the last");
        RubbedSheets y = States.children(1);
        y.sit(0, 1);
        for (int call = 4; call <= 511; call++) {
            y.measure(0, 0, call % 7);
        }
        edge.is("the 512th call", y.looked(), 508);
        edge.says(0, "An object is used for at most 512 calls: what is rubbed is counted up to the last");
        RubbedSheets z = States.children(1);
        z.sit(0, 1);
        z.mark(0, 0, 0, 3);
        for (int call = 5; call <= 511; call++) {
            z.mark(0, 0, 0, call % 2 == 1 ? 0 : 3);
        }
        edge.is("the 512th call", z.sheetIs(0, 0, 2), 254);
    }
}

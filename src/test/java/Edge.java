import java.util.Arrays;
import java.util.List;

/** One test for one sentence of the document: what it lets in, what it refuses, and what stays as it was. */
final class Edge {
    static final int BEYOND = -1000001;
    static final int FULL = -1000002;
    static final int KIND = -1000003;
    static final int NONE = -1000004;
    static final int STATE = -1000005;
    static final int MISSING = -1000006;
    static final int SIZE = -1000007;

    /** Makes an object in a known state, anew at each call. */
    interface Made {
        RubbedSheets make();
    }

    interface Call {
        int on(RubbedSheets x);
    }

    /** A call with one argument left open. */
    interface At {
        int on(RubbedSheets x, int v);
    }

    private final String name;
    private String sentence = "";
    private int sentences = 0;
    private int asked = 0;
    private int askedAhead = 0;
    private int wrong = 0;

    Edge(String name) {
        this.name = name;
    }

    /** Begins the test of a sentence of a promise; 0 is for the terms ahead of them. */
    void says(int promise, String text) {
        endSentence();
        sentence = (promise == 0 ? "terms" : "promise " + promise) + ": " + text;
        sentences++;
    }

    private void endSentence() {
        if (sentences > 0 && asked == askedAhead) {
            wrong("nothing was asked");
        }
        askedAhead = asked;
    }

    private void wrong(String what) {
        wrong++;
        System.out.println("[" + sentence + "] " + what);
    }

    void is(String what, long got, long want) {
        asked++;
        if (got != want) {
            wrong(what + " answered " + got + ", due is " + want);
        }
    }

    private void isText(String what, String got, String want) {
        asked++;
        if (!got.equals(want)) {
            wrong(what + " is " + got + ", due is " + want);
        }
    }

    /** The choices of a sheet, one sign a question, '.' is blank. */
    void choices(RubbedSheets x, int child, int year, String want) {
        StringBuilder row = new StringBuilder();
        for (int q = 0; q < 12; q++) {
            int choice = x.bubble(child, year, q, 0);
            row.append(choice == -1 ? "." : String.valueOf(choice));
        }
        isText("choices of child " + child, row.toString(), want);
    }

    /** The kinds of the hands of a sheet, one digit a question. */
    void kinds(RubbedSheets x, int child, int year, String want) {
        StringBuilder row = new StringBuilder();
        for (int q = 0; q < 12; q++) {
            row.append(x.bubble(child, year, q, 1));
        }
        isText("kinds of child " + child, row.toString(), want);
    }

    /** What a sheet counts as rubbed: wrong to right, right to wrong, wrong to wrong. */
    void rubbed(RubbedSheets x, int child, int year, int wr, int rw, int ww) {
        is("wrong to right of child " + child, x.sheetIs(child, year, 2), wr);
        is("right to wrong of child " + child, x.sheetIs(child, year, 3), rw);
        is("wrong to wrong of child " + child, x.sheetIs(child, year, 4), ww);
    }

    /** Each call is told this finding, which is counted once, and nothing else is changed by it. */
    void refuses(Made made, int finding, Call... calls) {
        for (int i = 0; i < calls.length; i++) {
            RubbedSheets ahead = made.make();
            RubbedSheets behind = made.make();
            is("call " + i, calls[i].on(behind), finding);
            int[] found = Seen.status(ahead);
            found[0]++;
            found[1 + BEYOND - finding]++;
            sameStatus("status behind call " + i, Seen.status(behind), found);
            sameRest("behind call " + i, Seen.rest(behind), Seen.rest(ahead));
        }
    }

    /** Each call answers so, and nothing at all is changed by it. */
    void idles(Made made, int answer, Call... calls) {
        for (int i = 0; i < calls.length; i++) {
            RubbedSheets ahead = made.make();
            RubbedSheets behind = made.make();
            is("idle call " + i, calls[i].on(behind), answer);
            sameStatus("status behind idle call " + i, Seen.status(behind), Seen.status(ahead));
            sameRest("behind idle call " + i, Seen.rest(behind), Seen.rest(ahead));
        }
    }

    /** Each call, on an object of its own, answers so. */
    void answers(Made made, int answer, Call... calls) {
        for (int i = 0; i < calls.length; i++) {
            is("call " + i, calls[i].on(made.make()), answer);
        }
    }

    /** From the first to the last number all are let in; those next to them and far off are BEYOND. */
    void lets(Made made, int first, int last, At call) {
        for (int v = first; v <= last; v++) {
            int got = call.on(made.make(), v);
            is(v + " is let in (" + got + ")", got > -1000000 ? 1 : 0, 1);
        }
        letsNoOther(made, first, last, call);
    }

    /** The numbers around a range, and those that look like one of it in fewer bits. */
    void letsNoOther(Made made, int first, int last, At call) {
        int[] others = {first - 1, last + 1, first - 256, first + 256, last + 65536, first - 65536,
            first + Integer.MIN_VALUE, Integer.MIN_VALUE, Integer.MAX_VALUE};
        for (int v : others) {
            if (v < first || v > last) {
                refuses(made, BEYOND, x -> call.on(x, v));
            }
        }
    }

    private void sameStatus(String what, int[] got, int[] want) {
        asked++;
        if (!Arrays.equals(got, want)) {
            wrong(what + " is " + Arrays.toString(got) + ", due is " + Arrays.toString(want));
        }
    }

    private void sameRest(String what, List<String> got, List<String> want) {
        asked++;
        for (int i = 0; i < Math.max(got.size(), want.size()); i++) {
            String one = i < got.size() ? got.get(i) : "nothing";
            String other = i < want.size() ? want.get(i) : "nothing";
            if (!one.equals(other)) {
                wrong(what + " there is " + one + ", there was " + other);
                return;
            }
        }
    }

    void end() {
        endSentence();
        System.out.println(name + ": " + sentences + " sentences, " + asked + " answers, " + wrong + " not as due");
        if (wrong != 0 || asked == 0) {
            System.exit(1);
        }
    }
}

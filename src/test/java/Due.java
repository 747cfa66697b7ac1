/** Counts answers that are not as due; what the tests share. */
final class Due {
    static final int BEYOND = -1000001;
    static final int FULL = -1000002;
    static final int KIND = -1000003;
    static final int NONE = -1000004;
    static final int STATE = -1000005;
    static final int MISSING = -1000006;
    static final int SIZE = -1000007;

    private int wrong = 0;
    private int asked = 0;

    void is(String call, long got, long want) {
        asked++;
        if (got != want) {
            wrong++;
            System.out.println(call + " answered " + got + ", due is " + want);
        }
    }

    void end(String name) {
        System.out.println(name + ": " + asked + " answers, " + wrong + " not as due");
        if (wrong != 0 || asked == 0) {
            System.exit(1);
        }
    }

    /** Feeds a text to the tape, four bytes at a time, so that long ones take few calls. */
    static void feed(RubbedSheets x, String text) {
        for (int i = 0; i < text.length(); i += 4) {
            int n = Math.min(4, text.length() - i);
            int bytes = 0;
            for (int j = i; j < i + n; j++) {
                bytes = bytes << 8 | text.charAt(j) & 255;
            }
            x.feed(bytes, n);
        }
    }

    static int way(RubbedSheets x, String text) {
        x.wipe();
        feed(x, text);
        return x.way();
    }

    /** A sheet for the open year, read from slip 3: one sign a question, '.' is blank. */
    static int read(RubbedSheets x, int child, String row) {
        x.slip(3, 8, 12);
        for (int q = 0; q < 12; q++) {
            x.write(3, q, row.charAt(q) == '.' ? -1 : row.charAt(q) - '0');
        }
        return x.read(child, 3);
    }
}

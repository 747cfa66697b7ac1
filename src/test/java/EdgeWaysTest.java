/** The edges of section 4 and of promises 25 to 30: the tape, ways and their faults, judging, lines. */
public final class EdgeWaysTest {
    private static final Edge edge = new Edge("EdgeWaysTest");

    public static void main(String[] args) {
        feedRanges();
        feedBytes();
        tapeFull();
        wipe();
        waysFull();
        wayEmpties();
        numbers();
        words();
        blanks();
        operators();
        openOnes();
        endsTooEarly();
        bytesThatBeginNone();
        longestTexts();
        truths();
        saysRanges();
        saysNames();
        judgesRanges();
        judges();
        lineRanges();
        lineNumbers();
        lineTies();
        edge.end();
    }

    private static RubbedSheets tapeOf(int n) {
        RubbedSheets x = States.fresh();
        for (int i = 0; i < n / 4; i++) {
            x.feed(0x20202020, 4);
        }
        for (int i = 0; i < n % 4; i++) {
            x.feed(' ', 1);
        }
        return x;
    }

    private static void feedRanges() {
        edge.says(25, "(n 1 to 4)");
        edge.lets(States::school, 1, 4, (x, v) -> x.feed('1', v));
        edge.lets(States::fresh, 1, 4, (x, v) -> x.feed(-1, v));
        edge.says(25, "BEYOND: n is asked ahead of FULL");
        edge.refuses(States::brim, Edge.BEYOND, x -> x.feed('1', 0), x -> x.feed('1', 5), x -> x.feed('1', -1),
                x -> x.feed('1', Integer.MAX_VALUE), x -> x.feed('1', Integer.MIN_VALUE));
        edge.says(25, "how many it has");
        edge.answers(States::fresh, 1, x -> x.feed(0, 1));
        edge.answers(States::fresh, 4, x -> x.feed(0, 4));
        edge.answers(States::school, 7, x -> x.feed(0, 4));
    }

    private static int worth(RubbedSheets x) {
        x.room();
        x.child(0, 0);
        x.sit(0, 0);
        int way = x.way();
        return way == 0 ? x.says(0, 0, 0) : -99999;
    }

    private static void feedBytes() {
        edge.says(25, "the n lowest bytes of a number, the highest of these first");
        edge.answers(States::fresh, 1234, x -> x.feed(0x31323334, 4) == 4 ? worth(x) : -1);
        edge.answers(States::fresh, 234, x -> x.feed(0x31323334, 3) == 3 ? worth(x) : -1);
        edge.answers(States::fresh, 34, x -> x.feed(0x31323334, 2) == 2 ? worth(x) : -1);
        edge.answers(States::fresh, 4, x -> x.feed(0x31323334, 1) == 1 ? worth(x) : -1);
        edge.says(25, "the n lowest bytes: of a number below 0, too");
        edge.answers(States::fresh, 7, x -> x.feed(0x80000037, 1) == 1 ? worth(x) : -1);
        edge.answers(States::fresh, 78, x -> x.feed(0xFFFF3738, 2) == 2 ? worth(x) : -1);
        edge.says(25, "bytes are of 8 bits: from 0 to 255");
        edge.answers(States::fresh, -1, x -> x.feed(0xFFFFFFFF, 4) == 4 ? x.way() : -9);
        edge.answers(States::fresh, -1, x -> x.feed(0, 1) == 1 ? x.way() : -9);
        edge.answers(States::fresh, -2, x -> x.feed(0x31B1, 2) == 2 ? x.way() : -9);
        edge.says(25, "THE TAPE gets them behind it");
        edge.answers(States::fresh, 12, x -> x.feed('1', 1) + x.feed('2', 1) == 3 ? worth(x) : -1);
    }

    private static void tapeFull() {
        edge.says(0, "THE TAPE has bytes, at most 100");
        for (int n = 1; n <= 4; n++) {
            int more = n;
            edge.answers(() -> tapeOf(100 - more), 100, x -> x.feed(0x20202020, more));
        }
        edge.says(25, "FULL");
        for (int n = 1; n <= 4; n++) {
            int more = n;
            for (int has = 101 - n; has <= 100; has++) {
                int h = has;
                edge.refuses(() -> tapeOf(h), Edge.FULL, x -> x.feed(0x31313131, more));
            }
        }
        edge.refuses(States::brim, Edge.FULL, x -> x.feed('1', 1), x -> x.feed('1', 4));
        edge.says(25, "FULL: fewer bytes may still find room");
        RubbedSheets x = tapeOf(98);
        edge.is("four", x.feed('5', 4), Edge.FULL);
        edge.is("three", x.feed('5', 3), Edge.FULL);
        edge.is("two", x.feed(0x2035, 2), 100);
        edge.is("none is lost", worth(x), 5);
    }

    private static void wipe() {
        edge.says(26, "THE TAPE is empty: how many it had");
        edge.idles(States::fresh, 0, x -> x.wipe());
        for (int n : new int[] {1, 99, 100}) {
            RubbedSheets x = tapeOf(n);
            edge.is("it had", x.wipe(), n);
            edge.is("it has", x.count(7), 0);
            edge.is("once more", x.wipe(), 0);
            edge.is("there is room", x.feed(0x20202020, 4), 4);
        }
        edge.answers(States::brim, 100, x -> x.wipe());
        edge.says(26, "THE TAPE is empty: what was on it is no more");
        RubbedSheets y = States.fresh();
        Due.feed(y, "9+9");
        y.wipe();
        y.feed('7', 1);
        edge.is("7 alone", worth(y), 7);
    }

    private static void waysFull() {
        edge.says(0, "WAYS 0, 1, .. (at most 6)");
        RubbedSheets x = States.fresh();
        for (int way = 0; way < 6; way++) {
            edge.is("way()", Due.way(x, "1"), way);
            edge.is("ways", x.count(4), way + 1);
        }
        edge.says(27, "FULL (THE TAPE stays)");
        edge.is("seventh", Due.way(x, "wr"), Edge.FULL);
        edge.is("the tape stays", x.count(7), 2);
        edge.is("ways stay", x.count(4), 6);
        edge.refuses(States::brim, Edge.FULL, y -> y.way());
        edge.says(27, "FULL is asked ahead of a FAULT, and of an empty TAPE");
        edge.is("a fault", Due.way(x, "wr|"), Edge.FULL);
        edge.is("the tape stays", x.wipe(), 3);
        edge.is("empty", x.way(), Edge.FULL);
        edge.says(27, "FULL (THE TAPE stays): its bytes are read when there is room again");
        RubbedSheets z = States.fresh();
        z.room();
        z.child(0, 0);
        z.sit(0, 0);
        z.image();
        for (int way = 0; way < 6; way++) {
            Due.way(z, "1");
        }
        Due.feed(z, "size+41");
        edge.is("full", z.way(), Edge.FULL);
        z.undo();
        edge.is("the first way", z.way(), 0);
        edge.is("by those bytes", z.says(0, 0, 0), 42);
    }

    private static void wayEmpties() {
        edge.says(27, "THE TAPE is empty then");
        RubbedSheets x = States.fresh();
        edge.is("a way", Due.way(x, "1"), 0);
        edge.is("the tape", x.count(7), 0);
        edge.is("nothing is a fault", x.way(), -1);
        edge.says(27, "With a FAULT: .. THE TAPE is empty, too");
        Due.feed(x, "1+");
        edge.is("a fault", x.way(), -3);
        edge.is("the tape", x.count(7), 0);
        edge.says(27, "With a FAULT: there is no new WAY, and no finding");
        edge.is("ways", x.count(4), 1);
        edge.is("findings", x.status(-1), 0);
        edge.is("the next one", Due.way(x, "2"), 1);
        edge.says(27, "With a FAULT: -1 less its place: the last there can be");
        edge.answers(() -> tapeOf(100), -101, y -> y.way());
        edge.answers(() -> tapeOf(99), -101, y -> y.feed('(', 1) == 100 ? y.way() : -9);
        edge.answers(() -> tapeOf(99), -100, y -> y.feed('#', 1) == 100 ? y.way() : -9);
    }

    private static void fault(String text, int place) {
        RubbedSheets x = States.fresh();
        edge.is("[" + text + "]", Due.way(x, text), -1 - place);
        edge.is("the tape behind [" + text + "]", x.count(7), 0);
        edge.is("ways behind [" + text + "]", x.count(4), 0);
        edge.is("findings behind [" + text + "]", x.status(-1), 0);
    }

    private static void worth(String text, int want) {
        RubbedSheets x = States.sheets("000000000000");
        edge.is("[" + text + "] is a way", Due.way(x, text), 0);
        edge.is("[" + text + "]", x.says(0, 0, 0), want);
    }

    private static void numbers() {
        edge.says(0, "a NUMBER of 1 to 4 digits");
        worth("0", 0);
        worth("9", 9);
        worth("10", 10);
        worth("999", 999);
        worth("9999", 9999);
        worth("0000", 0);
        worth("0009", 9);
        edge.says(0, "The FAULT: also of a NUMBER of more digits");
        fault("00000", 0);
        fault("10000", 0);
        fault("99999", 0);
        fault("4294967297", 0);
        fault("1+00000", 2);
        fault("(12345)", 1);
        fault(" 12345", 1);
        fault("1".repeat(100), 0);
        edge.says(0, "NUMBERS are as long as can be");
        fault("12 34", 3);
        fault("1 2", 2);
        worth("12+34", 46);
        edge.says(0, "the first that can't stand there: a long NUMBER behind it is not the first");
        fault("1 12345", 2);
        fault("| 12345", 0);
        fault(") 12345", 0);
    }

    private static void words() {
        edge.says(0, "a NAME (wr rw row fit fall size)");
        worth("wr", 0);
        worth("rw", 0);
        worth("row", 0);
        worth("fit", 0);
        worth("fall", 0);
        worth("size", 1);
        edge.says(0, "The FAULT: also of a WORD that is none of these");
        for (String word : new String[] {"w", "r", "ro", "fi", "fa", "fal", "siz", "wrr", "rww", "rows", "fits", "falls",
            "sizes", "puts", "put", "a", "z", "wrx", "xwr", "rowfit", "wrwr"}) {
            fault(word, 0);
            fault("1+" + word, 2);
        }
        fault("z".repeat(100), 0);
        edge.says(0, "a WORD that is none of these: one letter of a NAME is another");
        for (String name : new String[] {"wr", "rw", "row", "fit", "fall", "size"}) {
            for (int i = 0; i < name.length(); i++) {
                fault(name.substring(0, i) + "q" + name.substring(i + 1), 0);
                fault("1-" + name.substring(0, i) + "q" + name.substring(i + 1), 2);
            }
            fault(name.substring(1), 0);
            fault("q" + name, 0);
            fault(name + "q", 0);
        }
        edge.says(0, "a WORD that is none of these: also one that ends or begins as a NAME does, however long");
        for (String name : new String[] {"wr", "rw", "row", "fit", "fall", "size"}) {
            for (int more : new int[] {1, 2, 3, 4, 5, 8, 90}) {
                fault("a".repeat(more) + name, 0);
                fault(name + "a".repeat(more), 0);
                fault("1+" + "z".repeat(more) + name, 2);
            }
            fault(name + name, 0);
            fault(name.repeat(3), 0);
        }
        edge.says(0, "a WORD that is none of these, a NUMBER of more digits: behind each sign, and a NAME or a NUMBER");
        for (String ahead : new String[] {"(", "!", "1+", "1-", "1<", "1=", "1>", "1&", "1|", "1 ", "wr ", "(1)", "!(",
            "(!"}) {
            fault(ahead + "abc", ahead.length());
            fault(ahead + "abc)", ahead.length());
            fault(ahead + "12345", ahead.length());
            fault(ahead + "#", ahead.length());
        }
        edge.says(0, "WORDS (a to z): no other byte is of one");
        fault("WR", 0);
        fault("wR", 0);
        fault("`", 0);
        fault("{", 0);
        fault("wr{", 2);
        fault("wr`", 2);
        fault("wr_", 2);
        edge.says(0, "WORDS are as long as can be");
        fault("wrrw", 0);
        fault("rowrow", 0);
        fault("wr rw", 3);
        fault("size1", 4);
        fault("1size", 1);
        fault("wr1", 2);
        worth("size+size", 2);
    }

    private static void blanks() {
        edge.says(0, "blanks (32) between any two of these and signs");
        worth(" ( size + 1 ) < 3 & ! 0 | 0 ", 1);
        worth("1 +  2", 3);
        edge.says(0, "blanks ahead of the first and behind the last one, too");
        worth(" 1", 1);
        worth("1 ", 1);
        worth(" ".repeat(49) + "7" + " ".repeat(50), 7);
        edge.says(0, "blanks (32): no other byte is one");
        for (char sign : new char[] {0, 9, 10, 13, 31, 34, 127, 160, 255}) {
            fault("1" + sign, 1);
            fault(sign + "1", 0);
        }
        edge.says(0, "a WORD or a NUMBER has no blanks inside");
        fault("w r", 0);
        fault("si ze", 0);
        fault("1 0", 2);
        fault("ro w", 0);
    }

    private static void operators() {
        edge.says(0, "N: ! N, or S, perhaps one of < = > and S: one alone");
        worth("1<2", 1);
        fault("1<2<3", 3);
        fault("1<2=1", 3);
        fault("1=1>0", 3);
        fault("1>0 > 0", 4);
        fault("1<=2", 2);
        fault("1>=2", 2);
        fault("1==1", 2);
        fault("1<>1", 2);
        edge.says(0, "! N: not behind + - < = >");
        fault("1+!1", 2);
        fault("1-!1", 2);
        fault("1<!1", 2);
        fault("1=!1", 2);
        fault("1>!1", 2);
        worth("1&!1", 0);
        worth("1|!1", 1);
        worth("(!1)+3", 3);
        edge.says(0, "S: P { + P, - P }: no sign ahead of the first");
        fault("+1", 0);
        fault("-1", 0);
        fault("1++1", 2);
        fault("1--1", 2);
        fault("1+-1", 2);
        edge.says(0, "T: A { | A }, A: N { & N }: none ahead, none twice");
        fault("|1", 0);
        fault("&1", 0);
        fault("1||1", 2);
        fault("1&&1", 2);
        fault("1|&1", 2);
        fault("1!1", 1);
        fault("1(1)", 1);
        fault("(1)1", 3);
        fault("(1)(1)", 3);
        fault("(1)wr", 3);
        edge.says(0, "( T ): none empty, none that is not open");
        fault("()", 1);
        fault("( )", 2);
        fault(")", 0);
        fault("1)", 1);
        fault("(1))", 3);
        fault("(1+)", 3);
        fault("(|1)", 1);
    }

    private static void openOnes() {
        edge.says(0, "At most 6 ( are open at once");
        worth("((((((8))))))", 8);
        edge.says(0, "The FAULT: also of a seventh (");
        fault("(((((((8)))))))", 6);
        fault("((((((1+(2))))))))", 8);
        edge.says(0, "At most 6 ! are open at once");
        worth("!!!!!!5", 1);
        worth("!!!!!5", 0);
        edge.says(0, "The FAULT: also of a seventh !");
        fault("!!!!!!!5", 6);
        fault("! ! ! ! ! ! ! 5", 12);
        edge.says(0, "At most 6 ( and ! together");
        worth("!(!(!(7)))", 0);
        worth("(((!!!7)))", 0);
        worth("!!!(((7)))", 0);
        fault("!(!(!((7))))", 6);
        fault("!(!(!(!7)))", 6);
        fault("(((!!!(7))))", 6);
        fault("!!!(((!7)))", 6);
        edge.says(0, "open at once: what is closed counts no more");
        worth("((((((1))))))+((((((2))))))", 3);
        worth("((((((1))))))<((((((2))))))", 1);
        worth("(1)+(1)+(1)+(1)+(1)+(1)+(1)+(1)", 8);
        worth("(((((1)+(1)))))+(((((1+(1))))))", 4);
        worth("(((((1+(1))+(1)))))", 3);
        edge.says(0, "(! till its N ends): & and | end it");
        worth("!!!!!!0&!!!!!!0", 0);
        worth("!!!!!!1|!!!!!!0", 1);
        worth("!0&((((((1))))))", 1);
        worth("!0|((((((1))))))", 1);
        worth("(!0&(((((1))))))", 1);
        edge.says(0, "(! till its N ends): ) ends it");
        worth("(!0)+((((((1))))))", 2);
        edge.says(0, "(! till its N ends): + - < = > don't end it");
        worth("!0+(((((1)))))", 0);
        fault("!0+((((((1))))))", 8);
        fault("!0-((((((1))))))", 8);
        fault("!0<((((((1))))))", 8);
        fault("!0=((((((1))))))", 8);
        fault("!0>((((((1))))))", 8);
        edge.says(0, "a seventh ( or ! where none can stand, or behind another FAULT, is no other FAULT");
        fault("((((((1(", 7);
        fault("((((((1!", 7);
        fault("(((((()(", 6);
    }

    private static void endsTooEarly() {
        edge.says(0, "(how many there are, if it ends too early)");
        fault("", 0);
        fault("!", 1);
        fault("(", 1);
        fault("1+", 2);
        fault("1-", 2);
        fault("1<", 2);
        fault("1=", 2);
        fault("1>", 2);
        fault("1&", 2);
        fault("1|", 2);
        fault("(1", 2);
        fault("((1)", 4);
        fault("((((((1)))))", 12);
        edge.says(0, "(how many there are, if it ends too early): blanks behind, too");
        fault(" ", 1);
        fault("! ", 2);
        fault("1+  ", 4);
        fault("(1   ", 5);
        fault(" ".repeat(100), 100);
        fault(" ".repeat(99) + "(", 100);
    }

    private static void bytesThatBeginNone() {
        edge.says(0, "The FAULT: also of a byte that begins none");
        String begins = " abcdefghijklmnopqrstuvwxyz0123456789|&!<=>+-()";
        for (int b = 0; b < 256; b++) {
            if (begins.indexOf((char) b) < 0) {
                fault("1" + (char) b, 1);
                fault("wr" + (char) b, 2);
                fault("" + (char) b, 0);
                fault("(" + (char) b, 1);
            }
        }
        edge.says(0, "The FAULT is the place of the first byte of the first that can't stand there");
        fault("wr + + #", 5);
        fault("# +", 0);
        fault("1 + # + #", 4);
        fault("1 abc def", 2);
        fault("   abc", 3);
        fault("1 +   abc", 6);
    }

    private static void longestTexts() {
        edge.says(0, "THE TAPE has bytes, at most 100: a TEXT of 100");
        worth("1+".repeat(49) + "11", 60);
        worth("0|".repeat(49) + "11", 1);
        worth("1&".repeat(49) + "11", 1);
        worth("!0&".repeat(33) + "1", 1);
        worth("9999-9999" + "-9999".repeat(18) + " ", -9999 * 18);
        worth("0-9999" + "-9999".repeat(18) + "-999", -9999 * 19 - 999);
        worth("((((((" + "1+".repeat(43) + "1" + "))))))" + " ", 44);
        edge.says(0, "THE TAPE has bytes, at most 100: a NAME, a NUMBER, a FAULT at its end");
        worth(" ".repeat(96) + "size", 1);
        worth(" ".repeat(96) + "9999", 9999);
        fault(" ".repeat(95) + "sizes", 95);
        fault(" ".repeat(95) + "99999", 95);
        fault("1" + " ".repeat(98) + "1", 99);
    }

    private static void truths() {
        edge.says(0, "| & ! < = > give 1 or 0");
        worth("7|0", 1);
        worth("7|9", 1);
        worth("0|0", 0);
        worth("7&9", 1);
        worth("7&0", 0);
        worth("!7", 0);
        worth("!0", 1);
        worth("(7<9)+(9>7)+(7=7)", 3);
        worth("(9<7)+(7>9)+(7=9)", 0);
        worth("(7<7)+(7>7)", 0);
        edge.says(0, "what is not 0 is true (below 0, too)");
        worth("(0-1)|0", 1);
        worth("(0-1)&1", 1);
        worth("!(0-1)", 0);
        worth("0-1<0", 1);
        worth("0-2<0-1", 1);
        worth("0>0-1", 1);
        edge.says(0, "one alone is not made 1 or 0");
        worth("7", 7);
        worth("(0-7)", -7);
        worth("((7))", 7);
        edge.says(0, "T of A, A of N, N of S, S of P: which is worked out first");
        worth("1|1&0", 1);
        worth("0&1|1", 1);
        worth("!0&0", 0);
        worth("!0|1", 1);
        worth("!1=0", 1);
        worth("1+1<1+2", 1);
        worth("9-3-2", 4);
        worth("9-(3-2)", 8);
        worth("2=2&3=3", 1);
        worth("2=3|3=3", 1);
    }

    private static void saysRanges() {
        edge.says(28, "BEYOND: no such WAY");
        edge.lets(States::school, 0, 1, (x, v) -> x.says(v, 0, 0));
        edge.lets(States::brim, 0, 5, (x, v) -> x.says(v, 5, 0));
        edge.letsNoOther(States::fresh, 1, 0, (x, v) -> x.says(v, 0, 0));
        edge.says(28, "BEYOND: no such ROOM");
        edge.lets(States::school, 0, 1, (x, v) -> x.says(0, v, 0));
        edge.letsNoOther(States::brim, 0, 5, (x, v) -> x.says(0, v, 5));
        edge.says(28, "BEYOND: no such YEAR");
        edge.lets(States::brim, 0, 5, (x, v) -> x.says(5, 5, v));
        edge.letsNoOther(States::school, 0, 5, (x, v) -> x.says(0, 0, v));
        edge.says(28, "NONE: it has no SHEETS of that YEAR");
        edge.refuses(States::school, Edge.NONE, x -> x.says(0, 0, 2), x -> x.says(1, 1, 5));
        edge.refuses(States::brim, Edge.NONE, x -> x.says(0, 4, 0), x -> x.says(5, 1, 5));
        edge.says(28, "BEYOND is asked ahead of NONE");
        edge.refuses(States::school, Edge.BEYOND, x -> x.says(2, 0, 2), x -> x.says(-1, 0, 2));
        edge.says(28, "What a WAY comes to: each its own");
        for (int way = 0; way < 6; way++) {
            int w = way;
            edge.idles(States::brim, way, x -> x.says(w, 5, 5));
        }
    }

    /** Three children; WR 2, RW 1, ROW 9, FIT 5 (1, 1 and 3), FALL -2, SIZE 3. */
    private static RubbedSheets allMeasures() {
        RubbedSheets x = States.sheets("011000000000", "011000000000", "011000000000");
        x.mark(0, 1, 0, 0);
        x.mark(1, 2, 5, 0);
        x.mark(2, 0, 0, 1);
        x.mark(2, 1, 0, -1);
        x.question(3, 1, 1);
        x.year();
        Due.read(x, 0, "000000000000");
        Due.read(x, 1, "000000000000");
        return x;
    }

    private static void saysNames() {
        edge.says(0, "a NAME (wr rw row fit fall size) is that MEASURE of the ROOM in the YEAR");
        String[] names = {"wr", "rw", "row", "fit", "fall", "size"};
        int[] wants = {2, 1, 9, 5, -2, 3};
        int[] nexts = {0, 0, 0, 0, 0, 2};
        for (int m = 0; m < 6; m++) {
            RubbedSheets x = allMeasures();
            edge.is("a way", Due.way(x, names[m]), 0);
            edge.is(names[m], x.says(0, 0, 0), wants[m]);
            edge.is(names[m] + " of the next YEAR", x.says(0, 0, 1), nexts[m]);
        }
        RubbedSheets x = allMeasures();
        edge.is("a way", Due.way(x, "wr+wr+rw+row+fit-fall+size"), 0);
        edge.is("2+2+1+9+5+2+3", x.says(0, 0, 0), 24);
    }

    private static void judgesRanges() {
        edge.says(29, "BEYOND: no such WAY");
        edge.lets(States::school, 0, 1, (x, v) -> x.judges(v, 0, 0));
        edge.lets(States::brim, 0, 5, (x, v) -> x.judges(v, 5, 0));
        edge.letsNoOther(States::fresh, 1, 0, (x, v) -> x.judges(v, 0, 0));
        edge.says(29, "BEYOND: no such YEAR");
        edge.lets(States::school, 0, 5, (x, v) -> x.judges(0, v, 0));
        edge.says(29, "what 0 FLAGGED, 1 WRONGED, 2 MISSED: no other what");
        edge.lets(States::school, 0, 2, (x, v) -> x.judges(0, 0, v));
        edge.says(29, "as sets of ROOMS: of a YEAR without SHEETS none (no finding)");
        edge.idles(States::school, 0, x -> x.judges(0, 2, 0), x -> x.judges(0, 5, 1), x -> x.judges(1, 5, 2));
        RubbedSheets y = States.fresh();
        Due.way(y, "1");
        edge.is("without ROOMS", y.judges(0, 0, 0), 0);
    }

    /** Six rooms, a child each; room r has r puts, but the last has no sheet. */
    private static RubbedSheets sixRooms(String text) {
        RubbedSheets x = States.rooms(6);
        for (int room = 0; room < 6; room++) {
            x.child(room, 0);
            if (room < 5) {
                Due.read(x, room, "111111111111");
            }
            for (int n = 0; n < room; n++) {
                x.puts(room, 1);
            }
        }
        Due.way(x, text);
        return x;
    }

    private static void judges(String text, int flagged, int wronged, int missed) {
        RubbedSheets x = sixRooms(text);
        edge.is("FLAGGED by " + text, x.judges(0, 0, 0), flagged);
        edge.is("WRONGED by " + text, x.judges(0, 0, 1), wronged);
        edge.is("MISSED by " + text, x.judges(0, 0, 2), missed);
    }

    private static void judges() {
        edge.says(0, "FLAGGED are ROOMS with SHEETS of which it is not 0: all of them");
        judges("1", 0b011111, 0b000001, 0);
        edge.says(0, "FLAGGED: not 0: below 0, too");
        judges("0-1", 0b011111, 0b000001, 0);
        judges("wr-2", 0b011011, 0b000001, 0b000100);
        edge.says(0, "FLAGGED: none");
        judges("0", 0, 0, 0b011110);
        edge.says(0, "WRONGED: FLAGGED ones with PUTS of 0");
        judges("wr<1", 0b000001, 0b000001, 0b011110);
        judges("wr<2", 0b000011, 0b000001, 0b011100);
        edge.says(0, "MISSED: ROOMS with SHEETS that have PUTS above 0 and aren't FLAGGED");
        judges("wr>0", 0b011110, 0, 0);
        judges("wr>1", 0b011100, 0, 0b000010);
        edge.says(0, "ROOMS with SHEETS: one that has none is neither FLAGGED nor MISSED; the last can be");
        RubbedSheets x = sixRooms("1");
        Due.read(x, 5, "000000000000");
        edge.is("FLAGGED", x.judges(0, 0, 0), 0b111111);
        edge.is("WRONGED", x.judges(0, 0, 1), 0b100001);
        x.mark(5, 0, 6, 1);
        edge.is("WRONGED", x.judges(0, 0, 1), 0b000001);
        edge.says(0, "in a YEAR: PUTS of that YEAR");
        x.year();
        x.sit(1, 0);
        edge.is("WRONGED in the next YEAR", x.judges(0, 1, 1), 0b000010);
        edge.is("MISSED in the next YEAR", x.judges(0, 1, 2), 0);
    }

    private static void lineRanges() {
        edge.says(0, "LINE of a MEASURE (0 to 5)");
        edge.lets(States::school, 0, 5, (x, v) -> x.line(v, 0, 0));
        edge.lets(States::brim, 0, 5, (x, v) -> x.line(v, 5, 0));
        edge.says(30, "BEYOND: no such YEAR");
        edge.lets(States::brim, 0, 5, (x, v) -> x.line(0, v, 0));
        edge.letsNoOther(States::school, 0, 5, (x, v) -> x.line(0, v, 0));
        edge.says(30, "what 0 the number, 1 how many it WRONGS, 2 MISSES: no other what");
        edge.lets(States::school, 0, 2, (x, v) -> x.line(0, 0, v));
        edge.says(30, "NONE: no ROOM has SHEETS of that YEAR");
        edge.refuses(States::fresh, Edge.NONE, x -> x.line(0, 0, 0));
        edge.refuses(() -> States.children(2), Edge.NONE, x -> x.line(0, 0, 0), x -> x.line(5, 5, 2));
        edge.refuses(States::school, Edge.NONE, x -> x.line(0, 2, 0), x -> x.line(5, 5, 2));
        edge.says(30, "BEYOND is asked ahead of NONE");
        edge.refuses(States::fresh, Edge.BEYOND, x -> x.line(6, 0, 0), x -> x.line(-1, 0, 0), x -> x.line(0, 6, 0),
                x -> x.line(0, -1, 0), x -> x.line(0, 0, 3), x -> x.line(0, 0, -1));
    }

    /** A room for each number, with so many rubbed wrong to right; those of the set have a choice by PUT. */
    private static RubbedSheets wrongs(int helped, int... numbers) {
        RubbedSheets x = States.rooms(numbers.length);
        for (int room = 0; room < numbers.length; room++) {
            x.child(room, 0);
            Due.read(x, room, "000000000000");
            for (int n = 0; n < numbers[room]; n++) {
                x.mark(room, 0, 0, 1);
                x.mark(room, 0, 0, 0);
            }
            if ((helped >> room & 1) == 1) {
                x.mark(room, 11, 5, 1);
            }
        }
        return x;
    }

    private static void line(RubbedSheets x, int m, int number, int wronged, int missed) {
        edge.is("the number", x.line(m, 0, 0), number);
        edge.is("it WRONGS", x.line(m, 0, 1), wronged);
        edge.is("it MISSES", x.line(m, 0, 2), missed);
    }

    private static void lineNumbers() {
        edge.says(0, "the number (0 to 9999): 0 FLAGS all ROOMS with SHEETS");
        line(wrongs(0b111, 0, 1, 2), 0, 0, 0, 0);
        line(wrongs(0b1, 0), 0, 0, 0, 0);
        edge.says(0, "the number (0 to 9999): none below 0, so what is below 0 is never FLAGGED");
        RubbedSheets x = States.sheets("111111111111");
        x.mark(0, 0, 5, 2);
        x.year();
        Due.read(x, 0, "000000000000");
        edge.is("FALL", x.measure(0, 0, 4), -12);
        line(x, 4, 0, 0, 1);
        edge.says(0, "ROOMS with so much or more count as FLAGGED: one above the greatest FLAGS none");
        line(wrongs(0, 0, 1, 2), 0, 3, 0, 0);
        line(wrongs(0, 0), 0, 1, 0, 0);
        line(wrongs(0, 50), 0, 51, 0, 0);
        edge.says(0, "ROOMS with so much or more count as FLAGGED: as much is enough");
        line(wrongs(0b10, 3, 4), 0, 4, 0, 0);
        line(wrongs(0b10, 3, 9), 0, 4, 0, 0);
        line(wrongs(0b110, 3, 4, 4), 0, 4, 0, 0);
        line(wrongs(0b1110, 0, 1, 1, 2), 0, 1, 0, 0);
        edge.says(0, "ROOMS with SHEETS: one without counts for nothing");
        RubbedSheets y = wrongs(0b10, 3, 4);
        y.room();
        y.child(2, 0);
        line(y, 0, 4, 0, 0);
        edge.says(0, "LINE of a MEASURE: all six ROOMS");
        line(wrongs(0b111000, 0, 1, 2, 3, 4, 5), 0, 3, 0, 0);
        line(wrongs(0b100000, 0, 1, 2, 3, 4, 5), 0, 5, 0, 0);
    }

    private static void lineTies() {
        edge.says(0, "with the fewest WRONGED and MISSED together");
        line(wrongs(0b0111, 1, 2, 3, 4), 0, 0, 1, 0);
        line(wrongs(0b1011, 1, 2, 3, 4), 0, 0, 1, 0);
        line(wrongs(0b1001, 1, 2, 3, 4), 0, 4, 0, 1);
        edge.says(0, "of several that with the fewest WRONGED");
        line(wrongs(0b01, 1, 2), 0, 3, 0, 1);
        line(wrongs(0b010, 1, 2, 3), 0, 4, 0, 1);
        line(wrongs(0b0101, 1, 2, 3, 4), 0, 5, 0, 2);
        line(wrongs(0b01, 2, 2), 0, 3, 0, 1);
        edge.says(0, "then the least");
        line(wrongs(0b10, 1, 5), 0, 2, 0, 0);
        line(wrongs(0b11, 4, 5), 0, 0, 0, 0);
        line(wrongs(0, 0, 0), 0, 1, 0, 0);
        line(wrongs(0b101, 2, 4, 6), 0, 5, 0, 1);
    }
}

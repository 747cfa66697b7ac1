/** The edges of section 7 and of promises 36 to 39: slips, their numbers, and what they are checked against. */
public final class EdgeSlipsTest {
    private static final Edge edge = new Edge("EdgeSlipsTest");

    public static void main(String[] args) {
        slipRanges();
        slipOrder();
        slipMissing();
        slipAnew();
        writeRefused();
        writeLowestBits();
        copyRefused();
        copyPlaces();
        copyAsTheyWere();
        checkRanges();
        checkPlaces();
        checkBits();
        edge.end();
    }

    private static void slipRanges() {
        edge.says(0, "SLIPS 0 to 3");
        edge.lets(States::school, 0, 3, (x, v) -> x.slip(v, 8, 1));
        edge.lets(States::fresh, 0, 3, (x, v) -> x.slip(v, 0, 0));
        edge.says(36, "BEYOND: bits (0, 8, 16 or 32)");
        for (int bits : new int[] {0, 8, 16, 32}) {
            edge.answers(States::school, bits == 0 ? 0 : 5, x -> x.slip(0, bits, 5));
        }
        for (int bits : new int[] {-1, 1, 7, 9, 15, 17, 24, 31, 33, 64, -8, -16, -32, 256, 264, 65552,
            Integer.MIN_VALUE, Integer.MAX_VALUE}) {
            edge.refuses(States::school, Edge.BEYOND, x -> x.slip(0, bits, 5));
        }
        edge.says(36, "BEYOND: n is above 24");
        for (int bits : new int[] {8, 16, 32}) {
            edge.answers(States::school, 24, x -> x.slip(0, bits, 24));
            edge.refuses(States::school, Edge.BEYOND, x -> x.slip(0, bits, 25), x -> x.slip(0, bits, 256),
                    x -> x.slip(0, bits, Integer.MAX_VALUE));
        }
        edge.says(36, "SIZE: n is below 0");
        for (int bits : new int[] {8, 16, 32}) {
            edge.answers(States::school, 0, x -> x.slip(0, bits, 0));
            edge.refuses(States::school, Edge.SIZE, x -> x.slip(0, bits, -1), x -> x.slip(0, bits, -24),
                    x -> x.slip(0, bits, Integer.MIN_VALUE));
        }
    }

    private static void slipOrder() {
        edge.says(36, "BEYOND (slip, bits) is asked ahead of SIZE");
        edge.refuses(States::school, Edge.BEYOND, x -> x.slip(4, 8, -1), x -> x.slip(-1, 8, -1), x -> x.slip(0, 7, -1),
                x -> x.slip(0, 33, Integer.MIN_VALUE));
        edge.says(36, "(Also with bits 0.): SIZE");
        edge.refuses(States::school, Edge.SIZE, x -> x.slip(0, 0, -1), x -> x.slip(3, 0, Integer.MIN_VALUE));
        edge.says(36, "(Also with bits 0.): BEYOND");
        edge.refuses(States::school, Edge.BEYOND, x -> x.slip(0, 0, 25), x -> x.slip(3, 0, Integer.MAX_VALUE),
                x -> x.slip(4, 0, 0), x -> x.slip(-1, 0, 0));
        edge.says(36, "(Also with bits 0.): up to 24 it is let in");
        edge.answers(States::school, 0, x -> x.slip(0, 0, 0), x -> x.slip(0, 0, 1), x -> x.slip(0, 0, 24));
    }

    private static void slipMissing() {
        edge.says(0, "SLIPS are MISSING (at first)");
        for (int s = 0; s < 4; s++) {
            int slip = s;
            edge.refuses(EdgeSlipsTest::noSlips, Edge.MISSING,
                    x -> x.write(slip, 0, 0), x -> x.read(0, slip), x -> x.check(0, 0, slip),
                    x -> x.copy(slip, 0, slip, 0, 0));
        }
        edge.says(36, "bits 0: it is MISSING");
        for (int n : new int[] {0, 5, 24}) {
            RubbedSheets x = States.school();
            edge.is("slip()", x.slip(0, 0, n), 0);
            edge.is("write", x.write(0, 0, 0), Edge.MISSING);
            edge.is("read", x.read(2, 0), Edge.MISSING);
            edge.is("check", x.check(0, 0, 0), Edge.MISSING);
            edge.is("copy from", x.copy(0, 0, 1, 0, 0), Edge.MISSING);
            edge.is("copy to", x.copy(1, 0, 0, 0, 0), Edge.MISSING);
            edge.is("the others stay", x.write(1, 4, 0), 1);
        }
        edge.says(36, "A slip that has no numbers isn't MISSING");
        RubbedSheets y = States.school();
        y.slip(0, 8, 0);
        edge.is("write", y.write(0, 0, 0), Edge.BEYOND);
        edge.is("read", y.read(2, 0), Edge.SIZE);
        edge.is("check", y.check(0, 0, 0), 0);
        edge.is("copy", y.copy(0, 0, 0, 0, 0), 0);
    }

    /** A room with a child that has a sheet, and no slip that was ever made. */
    private static RubbedSheets noSlips() {
        RubbedSheets x = States.children(1);
        x.sit(0, 0);
        return x;
    }

    private static void slipAnew() {
        edge.says(36, "A slip has n numbers, all 0: those that it had are no more");
        for (int bits : new int[] {8, 16, 32}) {
            RubbedSheets x = States.children(2);
            x.slip(0, bits, 24);
            for (int i = 0; i < 24; i++) {
                x.write(0, i, 3);
            }
            edge.is("anew", x.slip(0, bits, 12), 12);
            edge.is("all 0", x.read(0, 0), 12);
            edge.is("no number 12", x.write(0, 12, 0), Edge.BEYOND);
            edge.is("number 11", x.write(0, 11, 3), 1);
            edge.is("MISSING", x.slip(0, 0, 0), 0);
            edge.is("there again", x.slip(0, bits, 12), 12);
            edge.is("all 0 again", x.read(1, 0), 12);
        }
        edge.says(36, "A slip has n numbers: another slip stays");
        RubbedSheets y = States.children(1);
        for (int s = 0; s < 4; s++) {
            y.slip(s, 8, 12);
            y.write(s, 0, s);
        }
        y.slip(1, 32, 3);
        y.slip(3, 0, 0);
        edge.is("slip 0", y.read(0, 0), 12);
        y.leaves(0);
        edge.is("slip 2", y.read(0, 2), 11);
        edge.is("its number", y.bubble(0, 0, 0, 0), 2);
    }

    private static RubbedSheets slipOf(int bits, int n) {
        RubbedSheets x = States.school();
        x.slip(0, bits, n);
        return x;
    }

    private static void writeRefused() {
        edge.says(37, "BEYOND: no such slip");
        edge.lets(EdgeSlipsTest::fourSlips, 0, 3, (x, v) -> x.write(v, 0, 1));
        edge.letsNoOther(States::fresh, 0, 3, (x, v) -> x.write(v, 0, 1));
        edge.says(37, "MISSING");
        edge.refuses(States::school, Edge.MISSING, x -> x.write(3, 0, 1));
        edge.says(37, "BEYOND: no such number");
        edge.lets(() -> slipOf(8, 24), 0, 23, (x, v) -> x.write(0, v, 1));
        edge.lets(() -> slipOf(16, 1), 0, 0, (x, v) -> x.write(0, v, 1));
        edge.lets(States::school, 0, 11, (x, v) -> x.write(0, v, 1));
        edge.letsNoOther(() -> slipOf(32, 0), 1, 0, (x, v) -> x.write(0, v, 1));
        edge.says(37, "BEYOND (slip) and MISSING are asked ahead of BEYOND (number)");
        edge.refuses(States::school, Edge.BEYOND, x -> x.write(4, 99, 1), x -> x.write(-1, -1, 1));
        edge.refuses(States::school, Edge.MISSING, x -> x.write(3, 99, 1), x -> x.write(3, -1, 1),
                x -> x.write(3, Integer.MIN_VALUE, 1));
        edge.says(37, "Number i becomes v: 1, also if it was so");
        edge.idles(States::school, 1, x -> x.write(0, 0, 1), x -> x.write(0, 2, -1));
        edge.says(37, "Number i becomes v: no other does");
        for (int i = 0; i < 12; i++) {
            RubbedSheets x = States.children(1);
            x.slip(0, 8, 12);
            x.write(0, i, 3);
            x.read(0, 0);
            edge.choices(x, 0, 0, "0".repeat(i) + "3" + "0".repeat(11 - i));
        }
    }

    private static RubbedSheets fourSlips() {
        RubbedSheets x = States.school();
        for (int s = 0; s < 4; s++) {
            x.slip(s, 16, 12);
        }
        return x;
    }

    /** What a slip of so many bits makes of a number, as the choice of a sheet that is read from it. */
    private static int readBack(int bits, int v) {
        RubbedSheets x = States.children(1);
        x.slip(0, bits, 12);
        x.write(0, 0, v);
        int got = x.read(0, 0);
        return got < 0 ? got : x.bubble(0, 0, 0, 0);
    }

    private static void writeLowestBits() {
        int[] v = {-1, 0, 3, 4, 127, 128, 252, 253, 255, 256, 259, 260, 511, -253, -254, -256, 32767, 32768, 65535, 65536,
            65539, 65540, 131071, -65533, -65536, Integer.MIN_VALUE, Integer.MIN_VALUE + 2, Integer.MAX_VALUE};
        int b = Edge.BEYOND;
        int[] in8 = {-1, 0, 3, b, b, b, b, b, -1, 0, 3, b, -1, 3, 2, 0, -1, 0, -1, 0, 3, b, -1, 3, 0, 0, 2, -1};
        int[] in16 = {-1, 0, 3, b, b, b, b, b, b, b, b, b, b, b, b, b, b, b, -1, 0, 3, b, -1, 3, 0, 0, 2, -1};
        int[] in32 = {-1, 0, 3, b, b, b, b, b, b, b, b, b, b, b, b, b, b, b, b, b, b, b, b, b, b, b, b, b};
        edge.says(37, "(its lowest bits): of 8");
        for (int i = 0; i < v.length; i++) {
            edge.is(v[i] + " in 8 bits", readBack(8, v[i]), in8[i]);
        }
        edge.says(37, "(its lowest bits): of 16");
        for (int i = 0; i < v.length; i++) {
            edge.is(v[i] + " in 16 bits", readBack(16, v[i]), in16[i]);
        }
        edge.says(37, "(its lowest bits): of 32");
        for (int i = 0; i < v.length; i++) {
            edge.is(v[i] + " in 32 bits", readBack(32, v[i]), in32[i]);
        }
    }

    /** Slips 0 (12 numbers) and 1 (5 numbers) of 8 bits, slip 2 of 16, slip 3 is missing. */
    private static RubbedSheets forCopies() {
        RubbedSheets x = States.school();
        x.slip(1, 8, 5);
        x.slip(2, 16, 12);
        return x;
    }

    private static void copyRefused() {
        edge.says(38, "BEYOND: no such slip (either)");
        edge.letsNoOther(EdgeSlipsTest::forCopies, 0, 3, (x, v) -> x.copy(v, 0, 0, 0, 0));
        edge.letsNoOther(EdgeSlipsTest::forCopies, 0, 3, (x, v) -> x.copy(0, 0, v, 0, 0));
        edge.lets(EdgeSlipsTest::fourSlips, 0, 3, (x, v) -> x.copy(v, 0, 0, 0, 1));
        edge.lets(EdgeSlipsTest::fourSlips, 0, 3, (x, v) -> x.copy(0, 0, v, 0, 1));
        edge.says(38, "MISSING: one is");
        edge.refuses(EdgeSlipsTest::forCopies, Edge.MISSING, x -> x.copy(3, 0, 0, 0, 1), x -> x.copy(0, 0, 3, 0, 1),
                x -> x.copy(3, 0, 3, 0, 0));
        edge.says(38, "KIND: they are not of as many bits");
        edge.refuses(EdgeSlipsTest::forCopies, Edge.KIND, x -> x.copy(0, 0, 2, 0, 1), x -> x.copy(2, 0, 0, 0, 1),
                x -> x.copy(0, 0, 2, 0, 0));
        for (int bits : new int[] {8, 16, 32}) {
            for (int other : new int[] {8, 16, 32}) {
                RubbedSheets x = States.fresh();
                x.slip(0, bits, 1);
                x.slip(1, other, 1);
                edge.is(bits + " to " + other, x.copy(0, 0, 1, 0, 1), bits == other ? 1 : Edge.KIND);
            }
        }
        edge.says(38, "BEYOND (slip) is asked ahead of MISSING, KIND");
        edge.refuses(EdgeSlipsTest::forCopies, Edge.BEYOND, x -> x.copy(3, 0, 4, 0, 0), x -> x.copy(4, 0, 3, 0, 0),
                x -> x.copy(2, 0, -1, 0, 0));
        edge.says(38, "MISSING is asked ahead of KIND and BEYOND (places)");
        edge.refuses(EdgeSlipsTest::forCopies, Edge.MISSING, x -> x.copy(3, -1, 2, 0, 99), x -> x.copy(2, 0, 3, 99, -1));
        edge.says(38, "KIND is asked ahead of BEYOND (places)");
        edge.refuses(EdgeSlipsTest::forCopies, Edge.KIND, x -> x.copy(0, -1, 2, 0, 1), x -> x.copy(2, 0, 0, -1, 1),
                x -> x.copy(2, 0, 0, 0, -1), x -> x.copy(2, 0, 0, 0, 99));
    }

    private static void copyPlaces() {
        int max = Integer.MAX_VALUE;
        int min = Integer.MIN_VALUE;
        edge.says(38, "BEYOND: one has not so many (the one it comes from)");
        edge.answers(EdgeSlipsTest::forCopies, 5, x -> x.copy(1, 0, 0, 0, 5), x -> x.copy(1, 0, 0, 7, 5));
        edge.answers(EdgeSlipsTest::forCopies, 1, x -> x.copy(1, 4, 0, 0, 1));
        edge.refuses(EdgeSlipsTest::forCopies, Edge.BEYOND, x -> x.copy(1, 0, 0, 0, 6), x -> x.copy(1, 4, 0, 0, 2),
                x -> x.copy(1, 5, 0, 0, 1), x -> x.copy(1, 6, 0, 0, 1));
        edge.says(38, "BEYOND: one has not so many (the one it comes to)");
        edge.answers(EdgeSlipsTest::forCopies, 5, x -> x.copy(0, 0, 1, 0, 5), x -> x.copy(0, 7, 1, 0, 5));
        edge.answers(EdgeSlipsTest::forCopies, 1, x -> x.copy(0, 0, 1, 4, 1));
        edge.refuses(EdgeSlipsTest::forCopies, Edge.BEYOND, x -> x.copy(0, 0, 1, 0, 6), x -> x.copy(0, 0, 1, 4, 2),
                x -> x.copy(0, 0, 1, 5, 1), x -> x.copy(0, 0, 1, 6, 1));
        edge.says(38, "BEYOND: from, to or n is below 0");
        edge.refuses(EdgeSlipsTest::forCopies, Edge.BEYOND, x -> x.copy(0, -1, 1, 0, 1), x -> x.copy(0, 0, 1, -1, 1),
                x -> x.copy(0, 0, 1, 0, -1), x -> x.copy(0, -1, 1, 0, 0), x -> x.copy(0, 0, 1, -1, 0),
                x -> x.copy(0, min, 1, 0, 0), x -> x.copy(0, 0, 1, min, 0), x -> x.copy(0, 0, 1, 0, min),
                x -> x.copy(0, 3, 1, 3, -1), x -> x.copy(0, 3, 1, 3, -3));
        edge.says(38, "BEYOND: sums that go round are no places");
        edge.refuses(EdgeSlipsTest::forCopies, Edge.BEYOND, x -> x.copy(0, max, 1, 0, 1), x -> x.copy(0, 1, 1, 0, max),
                x -> x.copy(0, max, 1, max, max), x -> x.copy(0, 0, 1, max, 1), x -> x.copy(0, 0, 1, 1, max),
                x -> x.copy(0, max, 1, 0, 0), x -> x.copy(0, 0, 1, max, 0), x -> x.copy(0, min, 1, min, max),
                x -> x.copy(0, min, 1, 0, min));
        edge.says(38, "n numbers: none, from and to behind the last one, too");
        edge.idles(EdgeSlipsTest::forCopies, 0, x -> x.copy(0, 0, 1, 0, 0), x -> x.copy(0, 12, 1, 5, 0),
                x -> x.copy(0, 12, 0, 0, 0));
        edge.refuses(EdgeSlipsTest::forCopies, Edge.BEYOND, x -> x.copy(0, 13, 1, 0, 0), x -> x.copy(0, 0, 1, 6, 0));
        edge.says(38, "n numbers: of a slip without any");
        edge.idles(() -> slipOf(8, 0), 0, x -> x.copy(0, 0, 0, 0, 0));
        edge.refuses(() -> slipOf(8, 0), Edge.BEYOND, x -> x.copy(0, 0, 0, 0, 1), x -> x.copy(0, 1, 0, 0, 0),
                x -> x.copy(0, 0, 0, 1, 0));
        edge.says(38, "n numbers: all 24");
        edge.answers(() -> {
            RubbedSheets x = slipOf(32, 24);
            x.slip(1, 32, 24);
            return x;
        }, 24, x -> x.copy(0, 0, 1, 0, 24), x -> x.copy(0, 0, 0, 0, 24));
    }

    private static void row(RubbedSheets x, int s, String row) {
        int child = x.child(0, x.count(1));
        edge.is("reads", x.read(child, s) >= 0 ? 1 : 0, 1);
        edge.choices(x, child, 0, row);
    }

    private static RubbedSheets counted() {
        RubbedSheets x = States.rooms(1);
        x.slip(0, 8, 12);
        x.slip(1, 8, 12);
        for (int i = 0; i < 12; i++) {
            x.write(0, i, i % 4);
        }
        return x;
    }

    private static void copyAsTheyWere() {
        edge.says(38, "(as they all were): onto itself, up");
        for (int by = 0; by <= 12; by++) {
            RubbedSheets x = counted();
            edge.is("up by " + by, x.copy(0, 0, 0, by, 12 - by), 12 - by);
            row(x, 0, "012301230123".substring(0, by) + "012301230123".substring(0, 12 - by));
        }
        edge.says(38, "(as they all were): onto itself, down");
        for (int by = 0; by <= 12; by++) {
            RubbedSheets x = counted();
            edge.is("down by " + by, x.copy(0, by, 0, 0, 12 - by), 12 - by);
            row(x, 0, "012301230123".substring(by) + "012301230123".substring(12 - by));
        }
        edge.says(38, "come to another one: the first and the last number, and no others");
        RubbedSheets x = counted();
        x.copy(0, 11, 1, 0, 1);
        row(x, 1, "300000000000");
        x.copy(0, 3, 1, 11, 1);
        row(x, 1, "300000000003");
        row(x, 0, "012301230123");
        edge.says(38, "numbers of a slip below 0 come as they are");
        x.write(0, 0, -1);
        x.copy(0, 0, 1, 5, 1);
        row(x, 1, "30000.000003");
    }

    /** Room 0 with the measures WR 2, RW 1, ROW 9, FIT 5, FALL -2, SIZE 3, PUTS 1 in year 0; slip 0 tells them. */
    private static RubbedSheets told(int bits, int n) {
        RubbedSheets x = States.sheets("011000000000", "011000000000", "011000000000");
        x.mark(0, 1, 0, 0);
        x.mark(1, 2, 5, 0);
        x.mark(2, 0, 0, 1);
        x.mark(2, 1, 0, -1);
        x.question(3, 1, 1);
        x.year();
        Due.read(x, 0, "000000000000");
        Due.read(x, 1, "000000000000");
        x.slip(0, bits, n);
        int[] measures = {2, 1, 9, 5, -2, 3, 1};
        for (int i = 0; i < Math.min(n, 7); i++) {
            x.write(0, i, measures[i]);
        }
        return x;
    }

    private static void checkRanges() {
        edge.says(39, "BEYOND: no such ROOM");
        edge.lets(States::school, 0, 1, (x, v) -> x.check(v, 0, 0));
        edge.letsNoOther(States::brim, 0, 5, (x, v) -> x.check(v, 5, 0));
        edge.letsNoOther(States::fresh, 1, 0, (x, v) -> x.check(v, 0, 0));
        edge.says(39, "BEYOND: no such YEAR");
        edge.lets(States::brim, 0, 5, (x, v) -> x.check(5, v, 0));
        edge.letsNoOther(States::school, 0, 5, (x, v) -> x.check(0, v, 0));
        edge.says(39, "BEYOND: no such slip");
        edge.lets(States::brim, 0, 3, (x, v) -> x.check(5, 5, v));
        edge.letsNoOther(States::school, 0, 3, (x, v) -> x.check(0, 0, v));
        edge.says(39, "MISSING");
        edge.refuses(States::school, Edge.MISSING, x -> x.check(0, 0, 3));
        edge.says(39, "NONE: the ROOM has no SHEETS of that YEAR");
        edge.refuses(States::school, Edge.NONE, x -> x.check(0, 2, 0), x -> x.check(1, 5, 2));
        edge.refuses(States::brim, Edge.NONE, x -> x.check(4, 0, 0));
        edge.says(39, "BEYOND is asked ahead of MISSING and NONE");
        edge.refuses(States::school, Edge.BEYOND, x -> x.check(2, 0, 3), x -> x.check(0, 6, 3), x -> x.check(0, 2, 4));
        edge.says(39, "MISSING is asked ahead of NONE");
        edge.refuses(States::school, Edge.MISSING, x -> x.check(0, 2, 3));
    }

    private static void checkPlaces() {
        edge.says(39, "how many it has if all are");
        for (int n = 0; n <= 7; n++) {
            int size = n;
            edge.idles(() -> told(32, size), n, x -> x.check(0, 0, 0));
        }
        edge.says(39, "(or that has no MEASURE)");
        for (int n = 8; n <= 24; n++) {
            int size = n;
            edge.answers(() -> told(16, size), 7, x -> x.check(0, 0, 0));
        }
        edge.says(39, "the place of the first that isn't so");
        int[] measures = {2, 1, 9, 5, -2, 3, 1};
        for (int i = 0; i < 7; i++) {
            RubbedSheets x = told(8, 7);
            x.write(0, i, measures[i] + 1);
            edge.is("one more at " + i, x.check(0, 0, 0), i);
            x.write(0, i, measures[i] - 1);
            edge.is("one less at " + i, x.check(0, 0, 0), i);
            x.write(0, 6, 9);
            edge.is("two of them", x.check(0, 0, 0), i);
        }
        edge.says(39, "of a ROOM in a YEAR: of another YEAR they aren't so");
        edge.answers(() -> told(8, 7), 0, x -> x.check(0, 1, 0));
        edge.says(39, "Numbers of a slip tell MEASURES: it is not looked at");
        RubbedSheets x = told(8, 7);
        x.check(0, 0, 0);
        edge.is("looked()", x.looked(), 0);
    }

    private static void checkBits() {
        edge.says(39, "Numbers tell MEASURES: a FALL below 0 in each of the bits");
        for (int bits : new int[] {8, 16, 32}) {
            edge.answers(() -> told(bits, 5), 5, x -> x.check(0, 0, 0));
        }
        edge.says(39, "Numbers tell MEASURES: what isn't so in all bits, is so in the lowest");
        for (int bits : new int[] {8, 16, 32}) {
            RubbedSheets x = told(bits, 1);
            x.write(0, 0, 2 + 256);
            edge.is("258 in " + bits, x.check(0, 0, 0), bits == 8 ? 1 : 0);
            x.write(0, 0, 2 + 65536);
            edge.is("65538 in " + bits, x.check(0, 0, 0), bits <= 16 ? 1 : 0);
            x.write(0, 0, 2 - 65536);
            edge.is("-65534 in " + bits, x.check(0, 0, 0), bits <= 16 ? 1 : 0);
        }
        edge.says(39, "Numbers tell MEASURES: 128 is no number of 8 bits, but one of 16");
        for (int wr : new int[] {127, 128, 129}) {
            for (int bits : new int[] {8, 16, 32}) {
                RubbedSheets x = rubbedOften(wr);
                x.slip(0, bits, 1);
                x.write(0, 0, wr);
                edge.is(wr + " in " + bits, x.check(0, 0, 0), bits > 8 || wr < 128 ? 1 : 0);
            }
        }
    }

    private static RubbedSheets rubbedOften(int wr) {
        RubbedSheets x = States.sheets("000000000000");
        for (int n = 0; n < wr; n++) {
            x.mark(0, 0, 0, 1);
            x.mark(0, 0, 0, 0);
        }
        return x;
    }
}

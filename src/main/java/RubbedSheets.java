import java.util.Arrays;

/**
 * Sheets of answers, the hands that rub them and put them right, and the ways of judging the rooms
 * they come from. The document shared/DOC.md says what each call promises.
 */
public final class RubbedSheets {
    private static final int BEYOND = -1000001;
    private static final int FULL = -1000002;
    private static final int KIND = -1000003;
    private static final int NONE = -1000004;
    private static final int STATE = -1000005;
    private static final int MISSING = -1000006;
    private static final int SIZE = -1000007;
    private static final int FINDINGS = 7;

    private static final int YEARS = 6;
    private static final int QUESTIONS = 12;
    private static final int CHOICES = 4;
    private static final int HARDEST = 9;
    private static final int ROOMS = 6;
    private static final int CHILDREN = 24;
    private static final int SEATS = 20;
    private static final int SHEETS = CHILDREN * YEARS;
    private static final int MOST_PUTS = 99;

    private static final int BLANK = -1;
    private static final int WRONG_TO_RIGHT = 0;
    private static final int RIGHT_TO_WRONG = 1;
    private static final int WRONG_TO_WRONG = 2;
    private static final int RUBBINGS = 3;

    private static final int KINDS = 8;
    private static final int KIND_SETS = 1 << KINDS;
    private static final int HAND = 0;
    private static final int OWN = 1;
    private static final int TAUGHT = 2;
    private static final int COPIED = 3;
    private static final int SAID = 4;
    private static final int PUT = 5;
    private static final int FILLED = 6;
    private static final int GUESS = 7;
    /** For each kind of hand the set of itself and of the kinds under it. */
    private static final int[] UNDER = {255, 134, 4, 8, 16, 96, 64, 128};

    private static final int MEASURES = 7;
    private static final int MEASURE_WR = 0;
    private static final int MEASURE_RW = 1;
    private static final int MEASURE_ROW = 2;
    private static final int MEASURE_FIT = 3;
    private static final int MEASURE_FALL = 4;
    private static final int MEASURE_SIZE = 5;
    private static final int MEASURE_PUTS = 6;
    /** Measures that ways can name and that lines are drawn by: all but the last one, PUTS. */
    private static final int TOLD_MEASURES = 6;
    private static final int FEWEST_ALIKE = 2;
    private static final int MOST_ALIKE = 9;
    private static final int ROW_ALIKE = 3;

    private static final int WAYS = 6;
    private static final int TAPE = 100;
    private static final int HIGHEST_LINE = 9999;

    private static final int PERSONS = 10;
    private static final int LAST_HOUR = 99;
    private static final int HOLDINGS = 30;
    private static final int FORMS = 8;
    private static final int HIGHEST_PRICE = 99;

    private static final int SLIPS = 4;
    private static final int SLIP_NUMBERS = 24;

    private final Book now;
    private final Book kept;
    private boolean isKept;
    private final School school;
    private final Sheets sheets;
    private final Measures measures;
    private final int[] told;
    private final Reader reader;
    private final int[] tape;
    private int fed;
    private final Slip[] slips;
    private final int[] found;
    private int looks;

    public RubbedSheets() {
        now = new Book();
        kept = new Book();
        isKept = false;
        school = now.school;
        sheets = now.sheets;
        measures = new Measures(now.school, now.sheets);
        told = new int[TOLD_MEASURES];
        reader = new Reader();
        tape = new int[TAPE];
        fed = 0;
        slips = new Slip[SLIPS];
        for (int s = 0; s < SLIPS; s++) {
            slips[s] = new Slip();
        }
        found = new int[FINDINGS];
        looks = 0;
    }

    // ---- questions, rooms, children

    public int question(int q, int what, int v) {
        if (!isQuestion(q) || !isWithin(what, 0, 1) || !isWithin(v, 0, what == 0 ? CHOICES - 1 : HARDEST)) {
            return finding(BEYOND);
        }
        int[] row = what == 0 ? school.keys : school.hard;
        int was = row[q];
        row[q] = v;
        return was;
    }

    public int room() {
        if (school.rooms >= ROOMS) {
            return finding(FULL);
        }
        school.rooms++;
        return school.rooms - 1;
    }

    public int child(int room, int seat) {
        if (!isRoom(room) || !isWithin(seat, 0, SEATS - 1)) {
            return finding(BEYOND);
        }
        if (school.isTaken(room, seat)) {
            return finding(STATE);
        }
        if (school.children >= CHILDREN) {
            return finding(FULL);
        }
        return school.seated(room, seat);
    }

    public int learn(int child, int q, boolean taught) {
        if (!isChild(child) || !isQuestion(q)) {
            return finding(BEYOND);
        }
        return school.learns(child, q, taught) ? 1 : 0;
    }

    public int forget(int child, int q) {
        if (!isChild(child) || !isQuestion(q)) {
            return finding(BEYOND);
        }
        return school.forgets(child, q) ? 1 : 0;
    }

    public int childIs(int child, int what) {
        if (!isChild(child) || !isWithin(what, 0, 4)) {
            return finding(BEYOND);
        }
        switch (what) {
            case 0:
                return school.roomOf[child];
            case 1:
                return school.seatOf[child];
            case 2:
                return school.known[child];
            case 3:
                return school.taught[child];
            default:
                return sheets.howManyOf(child);
        }
    }

    public int year() {
        if (school.openYear >= YEARS - 1) {
            return finding(FULL);
        }
        school.openYear++;
        return school.openYear;
    }

    // ---- tests, hands

    public int sit(int child, int lots) {
        if (!isChild(child)) {
            return finding(BEYOND);
        }
        int sheet = openSheet(child);
        if (sheets.there[sheet]) {
            return finding(STATE);
        }
        sheets.begin(sheet);
        answerAll(child, sheet, lots);
        return sheets.rights(sheet, school.keys);
    }

    public int read(int child, int s) {
        if (!isChild(child) || !isSlip(s)) {
            return finding(BEYOND);
        }
        Slip from = slips[s];
        if (from.isMissing()) {
            return finding(MISSING);
        }
        if (from.size != QUESTIONS) {
            return finding(SIZE);
        }
        if (!from.areWithin(BLANK, CHOICES - 1)) {
            return finding(BEYOND);
        }
        int sheet = openSheet(child);
        if (sheets.there[sheet]) {
            return finding(STATE);
        }
        sheets.begin(sheet);
        for (int q = 0; q < QUESTIONS; q++) {
            marks(sheet, q, HAND, from.numbers[q]);
        }
        return sheets.rights(sheet, school.keys);
    }

    public int mark(int child, int q, int kind, int choice) {
        if (!isChild(child) || !isQuestion(q) || !isKind(kind) || !isWithin(choice, BLANK, CHOICES - 1)) {
            return finding(BEYOND);
        }
        int sheet = openSheet(child);
        if (!sheets.there[sheet]) {
            return finding(STATE);
        }
        return marks(sheet, q, kind, choice) ? 1 : 0;
    }

    public int copies(int child, int other) {
        if (!isChild(child) || !isChild(other)) {
            return finding(BEYOND);
        }
        int sheet = openSheet(child);
        int source = openSheet(other);
        if (!sheets.there[sheet] || !sheets.there[source] || !school.areNeighbours(child, other)) {
            return finding(STATE);
        }
        int marked = 0;
        for (int q = 0; q < QUESTIONS; q++) {
            int choice = sheets.choiceAt(source, q);
            if (choice != BLANK && marks(sheet, q, COPIED, choice)) {
                marked++;
            }
        }
        return marked;
    }

    public int said(int room, int q) {
        if (!isRoom(room) || !isQuestion(q)) {
            return finding(BEYOND);
        }
        int marked = 0;
        for (int child = 0; child < school.children; child++) {
            if (sitsIn(child, room) && marks(openSheet(child), q, SAID, school.keys[q])) {
                marked++;
            }
        }
        return marked;
    }

    public int puts(int room, int n) {
        if (!isRoom(room) || !isWithin(n, 1, MOST_PUTS)) {
            return finding(BEYOND);
        }
        int marked = 0;
        for (int child = 0; child < school.children && marked < n; child++) {
            if (sitsIn(child, room)) {
                marked += putRight(openSheet(child), n - marked);
            }
        }
        return marked;
    }

    public int fills(int room) {
        if (!isRoom(room)) {
            return finding(BEYOND);
        }
        int marked = 0;
        for (int child = 0; child < school.children; child++) {
            if (sitsIn(child, room)) {
                marked += fillBlanks(openSheet(child));
            }
        }
        return marked;
    }

    public int leaves(int child) {
        if (!isChild(child)) {
            return finding(BEYOND);
        }
        int sheet = openSheet(child);
        if (!sheets.there[sheet]) {
            return finding(NONE);
        }
        sheets.there[sheet] = false;
        return sheets.rights(sheet, school.keys);
    }

    // ---- sheets

    public int bubble(int child, int year, int q, int what) {
        if (!isChild(child) || !isYear(year) || !isQuestion(q) || !isWithin(what, 0, 2)) {
            return finding(BEYOND);
        }
        int sheet = Sheets.place(child, year);
        if (!sheets.there[sheet]) {
            return finding(NONE);
        }
        switch (what) {
            case 0:
                return sheets.choiceAt(sheet, q);
            case 1:
                return sheets.kindAt(sheet, q);
            default:
                return sheets.choiceAt(sheet, q) == school.keys[q] ? 1 : 0;
        }
    }

    public int sheetIs(int child, int year, int what) {
        if (!isChild(child) || !isYear(year) || !isWithin(what, 0, 6)) {
            return finding(BEYOND);
        }
        int sheet = Sheets.place(child, year);
        if (!sheets.there[sheet]) {
            return finding(NONE);
        }
        switch (what) {
            case 0:
                return sheets.rights(sheet, school.keys);
            case 1:
                return QUESTIONS - sheets.filled(sheet);
            case 2:
                return sheets.rubbedAt(sheet, WRONG_TO_RIGHT);
            case 3:
                return sheets.rubbedAt(sheet, RIGHT_TO_WRONG);
            case 4:
                return sheets.rubbedAt(sheet, WRONG_TO_WRONG);
            case 5:
                return sheets.unfitPairs(sheet, school.keys, school.hard);
            default:
                return sheets.standingBy(sheet, PUT);
        }
    }

    public int weight(int kind, int n) {
        if (!isKind(kind)) {
            return finding(BEYOND);
        }
        switch (kind) {
            case OWN:
                return ownWeight(n);
            case TAUGHT:
                return 3 * ownWeight(n);
            case COPIED:
                return n / 2;
            case SAID:
                return n - 1;
            case PUT:
                return putWeight(n);
            case FILLED:
                return putWeight(n) - n;
            case GUESS:
                return ownWeight(n - 1);
            default:
                return n;
        }
    }

    public int as(int child, int year, int q, int kind) {
        if (!isChild(child) || !isYear(year) || !isQuestion(q) || !isKind(kind)) {
            return finding(BEYOND);
        }
        int sheet = Sheets.place(child, year);
        if (!sheets.there[sheet]) {
            return finding(NONE);
        }
        if (!has(UNDER[kind], sheets.kindAt(sheet, q))) {
            return finding(KIND);
        }
        return sheets.choiceAt(sheet, q);
    }

    // ---- rooms

    public int measure(int room, int year, int m) {
        if (!isRoom(room) || !isYear(year) || !isWithin(m, 0, MEASURES - 1)) {
            return finding(BEYOND);
        }
        if (!measures.hasSheets(room, year)) {
            return finding(NONE);
        }
        looks++;
        return measures.of(m, room, year);
    }

    public int looked() {
        return looks;
    }

    public int string(int room, int year, int k, int what) {
        if (!isRoom(room) || !isYear(year) || !isWithin(k, FEWEST_ALIKE, MOST_ALIKE) || !isWithin(what, 0, 2)) {
            return finding(BEYOND);
        }
        Strings strings = measures.strings;
        strings.find(room, year, k);
        switch (what) {
            case 0:
                return strings.length;
            case 1:
                return strings.first;
            default:
                return strings.members;
        }
    }

    public int odd(int room, int year, int m, int what) {
        if (!isRoom(room) || !isYear(year) || !isWithin(m, 0, MEASURES - 1) || !isWithin(what, 0, 1)) {
            return finding(BEYOND);
        }
        if (!measures.hasSheets(room, year)) {
            return finding(NONE);
        }
        int rooms = measures.roomsWithSheets(year);
        if (what == 1) {
            return Integer.bitCount(rooms);
        }
        measures.workOut(m, year, rooms);
        return Integer.bitCount(measures.roomsFrom(rooms, measures.worths[room]));
    }

    // ---- ways

    public int feed(int bytes, int n) {
        if (!isWithin(n, 1, 4)) {
            return finding(BEYOND);
        }
        if (fed + n > TAPE) {
            return finding(FULL);
        }
        for (int i = n - 1; i >= 0; i--) {
            tape[fed] = bytes >>> (8 * i) & 255;
            fed++;
        }
        return fed;
    }

    public int wipe() {
        int had = fed;
        fed = 0;
        return had;
    }

    public int way() {
        if (now.ways.size >= WAYS) {
            return finding(FULL);
        }
        int length = fed;
        fed = 0;
        int fault = reader.faultOf(tape, length);
        if (fault >= 0) {
            return -1 - fault;
        }
        return now.ways.taken(tape, length);
    }

    public int says(int way, int room, int year) {
        if (!isWay(way) || !isRoom(room) || !isYear(year)) {
            return finding(BEYOND);
        }
        if (!measures.hasSheets(room, year)) {
            return finding(NONE);
        }
        return comesTo(way, room, year);
    }

    public int judges(int way, int year, int what) {
        if (!isWay(way) || !isYear(year) || !isWithin(what, 0, 2)) {
            return finding(BEYOND);
        }
        int flagged = flaggedBy(way, year);
        if (what == 0) {
            return flagged;
        }
        int helped = measures.roomsWithPuts(year);
        return what == 1 ? flagged & ~helped : helped & ~flagged;
    }

    public int line(int m, int year, int what) {
        if (!isWithin(m, 0, TOLD_MEASURES - 1) || !isYear(year) || !isWithin(what, 0, 2)) {
            return finding(BEYOND);
        }
        int rooms = measures.roomsWithSheets(year);
        if (rooms == 0) {
            return finding(NONE);
        }
        measures.workOut(m, year, rooms);
        int helped = measures.roomsWithPuts(year);
        int best = measures.bestLine(rooms, helped);
        if (what == 0) {
            return best;
        }
        int flagged = measures.roomsFrom(rooms, best);
        return Integer.bitCount(what == 1 ? flagged & ~helped : helped & ~flagged);
    }

    // ---- keys, forms

    public int holds(int person, int room, int from, int to) {
        if (!isWithin(person, 0, PERSONS - 1) || !isRoom(room) || !areHours(from, to)) {
            return finding(BEYOND);
        }
        if (now.keys.size >= HOLDINGS) {
            return finding(FULL);
        }
        return now.keys.given(person, room, from, to);
    }

    public int gaps(int room, int from, int to, int what) {
        if (!isRoom(room) || !areHours(from, to) || !isWithin(what, 0, 1)) {
            return finding(BEYOND);
        }
        return what == 0 ? now.keys.gapCount(room, from, to) : now.keys.firstGap(room, from, to);
    }

    public int could(int room, int from, int to, int n) {
        if (!isRoom(room) || !areHours(from, to) || !isWithin(n, 1, LAST_HOUR)) {
            return finding(BEYOND);
        }
        return now.keys.holdersOfAtLeast(n, room, from, to);
    }

    public int form(int price, int bars) {
        if (!isWithin(price, 0, HIGHEST_PRICE) || !isWithin(bars, 0, KIND_SETS - 1)) {
            return finding(BEYOND);
        }
        if (now.forms.size >= FORMS) {
            return finding(FULL);
        }
        return now.forms.made(price, bars);
    }

    public int cheapest(int kinds, int what) {
        if (!isWithin(kinds, 0, KIND_SETS - 1) || !isWithin(what, 0, 1)) {
            return finding(BEYOND);
        }
        int best = now.forms.cheapestSet(kinds);
        if (best < 0) {
            return finding(NONE);
        }
        return what == 0 ? now.forms.priceOf(best) : best;
    }

    // ---- slips

    public int slip(int s, int bits, int n) {
        if (!isSlip(s) || bits != 0 && bits != 8 && bits != 16 && bits != 32) {
            return finding(BEYOND);
        }
        if (n < 0) {
            return finding(SIZE);
        }
        if (n > SLIP_NUMBERS) {
            return finding(BEYOND);
        }
        return slips[s].renewed(bits, n);
    }

    public int write(int s, int i, int v) {
        if (!isSlip(s)) {
            return finding(BEYOND);
        }
        Slip to = slips[s];
        if (to.isMissing()) {
            return finding(MISSING);
        }
        if (!isWithin(i, 0, to.size - 1)) {
            return finding(BEYOND);
        }
        to.numbers[i] = to.lowestBits(v);
        return 1;
    }

    public int copy(int s, int from, int t, int to, int n) {
        if (!isSlip(s) || !isSlip(t)) {
            return finding(BEYOND);
        }
        Slip source = slips[s];
        Slip target = slips[t];
        if (source.isMissing() || target.isMissing()) {
            return finding(MISSING);
        }
        if (source.bits != target.bits) {
            return finding(KIND);
        }
        if (!source.hasPart(from, n) || !target.hasPart(to, n)) {
            return finding(BEYOND);
        }
        System.arraycopy(source.numbers, from, target.numbers, to, n);
        return n;
    }

    public int check(int room, int year, int s) {
        if (!isRoom(room) || !isYear(year) || !isSlip(s)) {
            return finding(BEYOND);
        }
        Slip told = slips[s];
        if (told.isMissing()) {
            return finding(MISSING);
        }
        if (!measures.hasSheets(room, year)) {
            return finding(NONE);
        }
        for (int i = 0; i < told.size; i++) {
            if (i >= MEASURES || told.numbers[i] != measures.of(i, room, year)) {
                return i;
            }
        }
        return told.size;
    }

    // ---- images

    public int image() {
        kept.become(now);
        isKept = true;
        return 1;
    }

    public int undo() {
        if (!isKept) {
            return finding(NONE);
        }
        now.become(kept);
        return school.openYear;
    }

    public int tear() {
        boolean was = isKept;
        isKept = false;
        return was ? 1 : 0;
    }

    public int count(int what) {
        switch (what) {
            case 0:
                return school.rooms;
            case 1:
                return school.children;
            case 2:
                return sheets.howManyIn(school.openYear);
            case 3:
                return sheets.howMany();
            case 4:
                return now.ways.size;
            case 5:
                return now.forms.size;
            case 6:
                return now.keys.size;
            case 7:
                return fed;
            case 8:
                return school.openYear;
            case 9:
                return sheets.allFilled();
            case 10:
                return sheets.allRights(school.keys);
            default:
                return finding(BEYOND);
        }
    }

    public int status(int which) {
        if (!isWithin(which, -1, FINDINGS - 1)) {
            return finding(BEYOND);
        }
        if (which >= 0) {
            return found[which];
        }
        int all = 0;
        for (int f = 0; f < FINDINGS; f++) {
            all += found[f];
        }
        return all;
    }

    // ---- what the calls share

    private int finding(int which) {
        int place = BEYOND - which;
        if (isWithin(place, 0, FINDINGS - 1)) {
            found[place]++;
        }
        return which;
    }

    private static boolean isWithin(int v, int least, int most) {
        return v >= least && v <= most;
    }

    private static boolean has(int set, int member) {
        return (set >>> member & 1) == 1;
    }

    private static boolean isQuestion(int q) {
        return isWithin(q, 0, QUESTIONS - 1);
    }

    private static boolean isYear(int year) {
        return isWithin(year, 0, YEARS - 1);
    }

    private static boolean isKind(int kind) {
        return isWithin(kind, 0, KINDS - 1);
    }

    private static boolean isSlip(int s) {
        return isWithin(s, 0, SLIPS - 1);
    }

    private static boolean areHours(int from, int to) {
        return from >= 0 && to > from && to <= LAST_HOUR;
    }

    private boolean isRoom(int room) {
        return isWithin(room, 0, school.rooms - 1);
    }

    private boolean isChild(int child) {
        return isWithin(child, 0, school.children - 1);
    }

    private boolean isWay(int way) {
        return isWithin(way, 0, now.ways.size - 1);
    }

    private int openSheet(int child) {
        return Sheets.place(child, school.openYear);
    }

    private boolean sitsIn(int child, int room) {
        return school.roomOf[child] == room && sheets.there[openSheet(child)];
    }

    private boolean marks(int sheet, int q, int kind, int choice) {
        return sheets.marked(sheet, q, kind, choice, school.keys[q]);
    }

    private void answerAll(int child, int sheet, int lots) {
        int lot = lots;
        for (int q = 0; q < QUESTIONS; q++) {
            if (has(school.taught[child], q)) {
                marks(sheet, q, TAUGHT, school.keys[q]);
            } else if (has(school.known[child], q)) {
                marks(sheet, q, OWN, school.keys[q]);
            } else {
                lot = lot * 1103515245 + 12345;
                int choice = (lot >>> 16) % (CHOICES + 1);
                if (choice < CHOICES) {
                    marks(sheet, q, GUESS, choice);
                }
            }
        }
    }

    private int putRight(int sheet, int most) {
        int marked = 0;
        for (int q = 0; q < QUESTIONS && marked < most; q++) {
            if (sheets.choiceAt(sheet, q) != BLANK && marks(sheet, q, PUT, school.keys[q])) {
                marked++;
            }
        }
        return marked;
    }

    private int fillBlanks(int sheet) {
        int marked = 0;
        for (int q = 0; q < QUESTIONS; q++) {
            if (sheets.choiceAt(sheet, q) == BLANK && marks(sheet, q, FILLED, school.keys[q])) {
                marked++;
            }
        }
        return marked;
    }

    private static int ownWeight(int n) {
        return n + 2;
    }

    private static int putWeight(int n) {
        return -n;
    }

    private int comesTo(int way, int room, int year) {
        for (int m = 0; m < TOLD_MEASURES; m++) {
            told[m] = measures.of(m, room, year);
        }
        return reader.worthOf(now.ways.texts[way], now.ways.lengths[way], told);
    }

    private int flaggedBy(int way, int year) {
        int flagged = 0;
        for (int room = 0; room < school.rooms; room++) {
            if (measures.hasSheets(room, year) && comesTo(way, room, year) != 0) {
                flagged |= 1 << room;
            }
        }
        return flagged;
    }

    /** All that an image keeps: sections 1 to 6 of the document but for the tape. */
    private static final class Book {
        final School school = new School();
        final Sheets sheets = new Sheets();
        final Ways ways = new Ways();
        final Keys keys = new Keys();
        final Forms forms = new Forms();

        void become(Book other) {
            school.become(other.school);
            sheets.become(other.sheets);
            ways.become(other.ways);
            keys.become(other.keys);
            forms.become(other.forms);
        }
    }

    /** Section 1: the open year, the questions, the rooms and who sits in them. */
    private static final class School {
        int openYear;
        int rooms;
        int children;
        final int[] keys = new int[QUESTIONS];
        final int[] hard = new int[QUESTIONS];
        final int[] roomOf = new int[CHILDREN];
        final int[] seatOf = new int[CHILDREN];
        final int[] known = new int[CHILDREN];
        final int[] taught = new int[CHILDREN];

        void become(School other) {
            openYear = other.openYear;
            rooms = other.rooms;
            children = other.children;
            System.arraycopy(other.keys, 0, keys, 0, QUESTIONS);
            System.arraycopy(other.hard, 0, hard, 0, QUESTIONS);
            System.arraycopy(other.roomOf, 0, roomOf, 0, CHILDREN);
            System.arraycopy(other.seatOf, 0, seatOf, 0, CHILDREN);
            System.arraycopy(other.known, 0, known, 0, CHILDREN);
            System.arraycopy(other.taught, 0, taught, 0, CHILDREN);
        }

        boolean isTaken(int room, int seat) {
            for (int child = 0; child < children; child++) {
                if (roomOf[child] == room && seatOf[child] == seat) {
                    return true;
                }
            }
            return false;
        }

        int seated(int room, int seat) {
            int child = children;
            roomOf[child] = room;
            seatOf[child] = seat;
            children++;
            return child;
        }

        boolean learns(int child, int q, boolean isTaught) {
            int bit = 1 << q;
            int knew = known[child];
            int had = taught[child];
            known[child] = knew | bit;
            if (isTaught) {
                taught[child] = had | bit;
            }
            return known[child] != knew || taught[child] != had;
        }

        boolean forgets(int child, int q) {
            boolean knew = has(known[child], q);
            known[child] &= ~(1 << q);
            taught[child] &= ~(1 << q);
            return knew;
        }

        boolean areNeighbours(int child, int other) {
            return roomOf[child] == roomOf[other] && Math.abs(seatOf[child] - seatOf[other]) == 1;
        }
    }

    /** Section 2: a place for the sheet of each child in each year, in rows that are made once. */
    private static final class Sheets {
        final boolean[] there = new boolean[SHEETS];
        final int[] choices = new int[SHEETS * QUESTIONS];
        final int[] kinds = new int[SHEETS * QUESTIONS];
        final int[] rubbed = new int[SHEETS * RUBBINGS];

        static int place(int child, int year) {
            return child * YEARS + year;
        }

        void become(Sheets other) {
            for (int sheet = 0; sheet < SHEETS; sheet++) {
                there[sheet] = other.there[sheet];
            }
            System.arraycopy(other.choices, 0, choices, 0, SHEETS * QUESTIONS);
            System.arraycopy(other.kinds, 0, kinds, 0, SHEETS * QUESTIONS);
            System.arraycopy(other.rubbed, 0, rubbed, 0, SHEETS * RUBBINGS);
        }

        void begin(int sheet) {
            there[sheet] = true;
            Arrays.fill(choices, sheet * QUESTIONS, (sheet + 1) * QUESTIONS, BLANK);
            Arrays.fill(kinds, sheet * QUESTIONS, (sheet + 1) * QUESTIONS, HAND);
            Arrays.fill(rubbed, sheet * RUBBINGS, (sheet + 1) * RUBBINGS, 0);
        }

        int choiceAt(int sheet, int q) {
            return choices[sheet * QUESTIONS + q];
        }

        int kindAt(int sheet, int q) {
            return kinds[sheet * QUESTIONS + q];
        }

        int rubbedAt(int sheet, int rubbing) {
            return rubbed[sheet * RUBBINGS + rubbing];
        }

        /** Whether something happens. */
        boolean marked(int sheet, int q, int kind, int choice, int key) {
            int place = sheet * QUESTIONS + q;
            int was = choices[place];
            if (was == choice) {
                return false;
            }
            if (was != BLANK) {
                rubbed[sheet * RUBBINGS + rubbing(was, choice, key)]++;
            }
            choices[place] = choice;
            kinds[place] = kind;
            return true;
        }

        private static int rubbing(int was, int choice, int key) {
            if (was == key) {
                return RIGHT_TO_WRONG;
            }
            return choice == key ? WRONG_TO_RIGHT : WRONG_TO_WRONG;
        }

        int rights(int sheet, int[] keys) {
            int rights = 0;
            for (int q = 0; q < QUESTIONS; q++) {
                if (choiceAt(sheet, q) == keys[q]) {
                    rights++;
                }
            }
            return rights;
        }

        int filled(int sheet) {
            int filled = 0;
            for (int q = 0; q < QUESTIONS; q++) {
                if (choiceAt(sheet, q) != BLANK) {
                    filled++;
                }
            }
            return filled;
        }

        /** Choices that stand by a kind of hand or one under it; a blank is no choice. */
        int standingBy(int sheet, int kind) {
            int standing = 0;
            for (int q = 0; q < QUESTIONS; q++) {
                if (choiceAt(sheet, q) != BLANK && has(UNDER[kind], kindAt(sheet, q))) {
                    standing++;
                }
            }
            return standing;
        }

        int unfitPairs(int sheet, int[] keys, int[] hard) {
            int pairs = 0;
            for (int q = 0; q < QUESTIONS; q++) {
                if (choiceAt(sheet, q) == keys[q]) {
                    pairs += easierWrong(sheet, hard[q], keys, hard);
                }
            }
            return pairs;
        }

        private int easierWrong(int sheet, int harder, int[] keys, int[] hard) {
            int wrong = 0;
            for (int q = 0; q < QUESTIONS; q++) {
                if (hard[q] < harder && choiceAt(sheet, q) != keys[q]) {
                    wrong++;
                }
            }
            return wrong;
        }

        int howManyOf(int child) {
            int sum = 0;
            for (int year = 0; year < YEARS; year++) {
                if (there[place(child, year)]) {
                    sum++;
                }
            }
            return sum;
        }

        int howManyIn(int year) {
            int sum = 0;
            for (int child = 0; child < CHILDREN; child++) {
                if (there[place(child, year)]) {
                    sum++;
                }
            }
            return sum;
        }

        int howMany() {
            int sum = 0;
            for (int year = 0; year < YEARS; year++) {
                sum += howManyIn(year);
            }
            return sum;
        }

        int allFilled() {
            int sum = 0;
            for (int sheet = 0; sheet < SHEETS; sheet++) {
                if (there[sheet]) {
                    sum += filled(sheet);
                }
            }
            return sum;
        }

        int allRights(int[] keys) {
            int sum = 0;
            for (int sheet = 0; sheet < SHEETS; sheet++) {
                if (there[sheet]) {
                    sum += rights(sheet, keys);
                }
            }
            return sum;
        }
    }

    /** Section 3: what the sheets of a room tell, and which rooms a line flags. */
    private static final class Measures {
        final Strings strings;
        final int[] worths = new int[ROOMS];
        private final School school;
        private final Sheets sheets;

        Measures(School school, Sheets sheets) {
            this.school = school;
            this.sheets = sheets;
            strings = new Strings(school, sheets);
        }

        boolean hasSheets(int room, int year) {
            for (int child = 0; child < school.children; child++) {
                if (school.roomOf[child] == room && sheets.there[Sheets.place(child, year)]) {
                    return true;
                }
            }
            return false;
        }

        int of(int m, int room, int year) {
            if (m == MEASURE_ROW) {
                strings.find(room, year, ROW_ALIKE);
                return strings.length;
            }
            int sum = 0;
            for (int child = 0; child < school.children; child++) {
                if (school.roomOf[child] == room && sheets.there[Sheets.place(child, year)]) {
                    sum += ofChild(m, child, year);
                }
            }
            return sum;
        }

        private int ofChild(int m, int child, int year) {
            int sheet = Sheets.place(child, year);
            switch (m) {
                case MEASURE_WR:
                    return sheets.rubbedAt(sheet, WRONG_TO_RIGHT);
                case MEASURE_RW:
                    return sheets.rubbedAt(sheet, RIGHT_TO_WRONG);
                case MEASURE_FIT:
                    return sheets.unfitPairs(sheet, school.keys, school.hard);
                case MEASURE_FALL:
                    return fallOf(child, year);
                case MEASURE_SIZE:
                    return 1;
                case MEASURE_PUTS:
                    return sheets.standingBy(sheet, PUT);
                default:
                    return 0;
            }
        }

        private int fallOf(int child, int year) {
            if (year >= YEARS - 1 || !sheets.there[Sheets.place(child, year + 1)]) {
                return 0;
            }
            return sheets.rights(Sheets.place(child, year), school.keys)
                    - sheets.rights(Sheets.place(child, year + 1), school.keys);
        }

        int roomsWithSheets(int year) {
            int rooms = 0;
            for (int room = 0; room < school.rooms; room++) {
                if (hasSheets(room, year)) {
                    rooms |= 1 << room;
                }
            }
            return rooms;
        }

        int roomsWithPuts(int year) {
            int rooms = 0;
            for (int room = 0; room < school.rooms; room++) {
                if (of(MEASURE_PUTS, room, year) > 0) {
                    rooms |= 1 << room;
                }
            }
            return rooms;
        }

        void workOut(int m, int year, int rooms) {
            for (int room = 0; room < ROOMS; room++) {
                worths[room] = has(rooms, room) ? of(m, room, year) : 0;
            }
        }

        /** Which of these rooms have so much or more of the measure that was worked out last. */
        int roomsFrom(int rooms, int least) {
            int from = 0;
            for (int room = 0; room < ROOMS; room++) {
                if (has(rooms, room) && worths[room] >= least) {
                    from |= 1 << room;
                }
            }
            return from;
        }

        /** Only just above a room's own worth does a line flag fewer rooms, so no other line can be the least. */
        int bestLine(int rooms, int helped) {
            int best = 0;
            for (int room = 0; room < ROOMS; room++) {
                if (has(rooms, room) && isWithin(worths[room], 0, HIGHEST_LINE - 1)
                        && isBetter(worths[room] + 1, best, rooms, helped)) {
                    best = worths[room] + 1;
                }
            }
            return best;
        }

        private boolean isBetter(int line, int than, int rooms, int helped) {
            int flagged = roomsFrom(rooms, line);
            int otherFlagged = roomsFrom(rooms, than);
            int wronged = Integer.bitCount(flagged & ~helped);
            int otherWronged = Integer.bitCount(otherFlagged & ~helped);
            int harmed = wronged + Integer.bitCount(helped & ~flagged);
            int otherHarmed = otherWronged + Integer.bitCount(helped & ~otherFlagged);
            if (harmed != otherHarmed) {
                return harmed < otherHarmed;
            }
            return wronged != otherWronged ? wronged < otherWronged : line < than;
        }
    }

    /** The string of a room: the longest row of choices that enough sheets have alike. */
    private static final class Strings {
        private static final int CHOICE_BITS = 3;
        int length;
        int first;
        int members;
        private int most;
        private int gathered;
        private final int[] owners = new int[CHILDREN];
        private final long[] rows = new long[CHILDREN];
        private final int[] filled = new int[CHILDREN];
        private final School school;
        private final Sheets sheets;

        Strings(School school, Sheets sheets) {
            this.school = school;
            this.sheets = sheets;
        }

        void find(int room, int year, int k) {
            gather(room, year);
            length = 0;
            first = -1;
            members = 0;
            // A string of one more holds one of this length, so the first length without any is the end.
            for (int longer = 1; longer <= QUESTIONS; longer++) {
                most = k - 1;
                for (int from = 0; from <= QUESTIONS - longer; from++) {
                    lookAt(from, longer, k);
                }
                if (most < k) {
                    return;
                }
                length = longer;
            }
        }

        private void gather(int room, int year) {
            gathered = 0;
            for (int child = 0; child < school.children; child++) {
                int sheet = Sheets.place(child, year);
                if (school.roomOf[child] == room && sheets.there[sheet]) {
                    owners[gathered] = child;
                    pack(sheet);
                    gathered++;
                }
            }
        }

        /** A whole sheet in one number, so that stretches of two sheets are compared at once. */
        private void pack(int sheet) {
            long row = 0L;
            int choices = 0;
            for (int q = 0; q < QUESTIONS; q++) {
                int choice = sheets.choiceAt(sheet, q);
                row |= (long) (choice + 1) << (q * CHOICE_BITS);
                choices |= choice == BLANK ? 0 : 1 << q;
            }
            rows[gathered] = row;
            filled[gathered] = choices;
        }

        private void lookAt(int from, int longer, int k) {
            int questions = (1 << longer) - 1 << from;
            int seen = 0;
            for (int i = 0; i < gathered; i++) {
                if (!has(seen, owners[i]) && (filled[i] & questions) == questions) {
                    int alike = alikeTo(i, from, longer);
                    seen |= alike;
                    takeIfBetter(alike, from, k);
                }
            }
        }

        /** Looks behind i alone: one ahead that is like it would have been seen with it. */
        private int alikeTo(int i, int from, int longer) {
            long stretch = (1L << (longer * CHOICE_BITS)) - 1L << (from * CHOICE_BITS);
            int alike = 0;
            for (int j = i; j < gathered; j++) {
                if (((rows[i] ^ rows[j]) & stretch) == 0L) {
                    alike |= 1 << owners[j];
                }
            }
            return alike;
        }

        private void takeIfBetter(int alike, int from, int k) {
            int size = Integer.bitCount(alike);
            // Below k, first and members are still those of the length ahead.
            boolean isLess = size >= k && size == most && from == first && alike < members;
            if (size > most || isLess) {
                most = size;
                first = from;
                members = alike;
            }
        }
    }

    /** Section 4: the texts that are ways. */
    private static final class Ways {
        int size;
        final int[][] texts = new int[WAYS][TAPE];
        final int[] lengths = new int[WAYS];

        void become(Ways other) {
            size = other.size;
            for (int way = 0; way < WAYS; way++) {
                lengths[way] = other.lengths[way];
                System.arraycopy(other.texts[way], 0, texts[way], 0, TAPE);
            }
        }

        int taken(int[] text, int length) {
            int way = size;
            System.arraycopy(text, 0, texts[way], 0, length);
            lengths[way] = length;
            size++;
            return way;
        }
    }

    /** Reads a text and works it out as it goes; behind a fault it sees only the end. */
    private static final class Reader {
        private static final int DEEPEST = 6;
        private static final int DIGITS = 4;
        /** The names of the measures 0, 1, .. (wr rw row fit fall size), a byte a letter, the last one lowest. */
        private static final int[] NAMES = {0x7772, 0x7277, 0x726f77, 0x666974, 0x66616c6c, 0x73697a65};
        private static final int LONGEST_NAME = 4;
        private static final int NUMBER = 256;
        private static final int END = 257;
        private static final int UNKNOWN = 258;
        private static final int NO_FAULT = -1;
        private int[] text;
        private int length;
        private int next;
        private int start;
        private int sign;
        private int worth;
        private int fault;
        private int[] measures;
        private final int[] nothing = new int[TOLD_MEASURES];

        Reader() {
            text = nothing;
            measures = nothing;
        }

        int faultOf(int[] bytes, int size) {
            worthOf(bytes, size, nothing);
            return fault;
        }

        int worthOf(int[] bytes, int size, int[] told) {
            text = bytes;
            length = size;
            measures = told;
            next = 0;
            fault = NO_FAULT;
            step();
            int all = either(0);
            if (sign != END) {
                fail();
            }
            return all;
        }

        private void fail() {
            if (fault == NO_FAULT) {
                fault = start;
                sign = END;
            }
        }

        private void step() {
            if (fault != NO_FAULT) {
                return;
            }
            while (next < length && text[next] == ' ') {
                next++;
            }
            start = next;
            if (next >= length) {
                sign = END;
            } else if (isDigit(text[next])) {
                stepNumber();
            } else if (isLetter(text[next])) {
                stepWord();
            } else {
                sign = text[next];
                next++;
            }
        }

        private static boolean isDigit(int b) {
            return b >= '0' && b <= '9';
        }

        private static boolean isLetter(int b) {
            return b >= 'a' && b <= 'z';
        }

        private void stepNumber() {
            worth = 0;
            while (next < length && isDigit(text[next])) {
                worth = worth * 10 + (text[next] - '0');
                next++;
            }
            sign = next - start <= DIGITS ? NUMBER : UNKNOWN;
        }

        private void stepWord() {
            int letters = 0;
            while (next < length && isLetter(text[next])) {
                letters = letters << 8 | text[next];
                next++;
            }
            sign = UNKNOWN;
            // Of a longer word the first letters are shifted out, so that its end could pass for a name.
            if (next - start > LONGEST_NAME) {
                return;
            }
            for (int m = 0; m < TOLD_MEASURES; m++) {
                if (NAMES[m] == letters) {
                    sign = NUMBER;
                    worth = measures[m];
                }
            }
        }

        // Each turn of the loops below takes a byte at least, so the tape's length bounds them.

        private int either(int depth) {
            int left = both(depth);
            for (int turn = 0; turn < TAPE && sign == '|'; turn++) {
                step();
                int right = both(depth);
                left = left != 0 || right != 0 ? 1 : 0;
            }
            return left;
        }

        private int both(int depth) {
            int left = denied(depth);
            for (int turn = 0; turn < TAPE && sign == '&'; turn++) {
                step();
                int right = denied(depth);
                left = left != 0 && right != 0 ? 1 : 0;
            }
            return left;
        }

        private int denied(int depth) {
            if (sign != '!') {
                return compared(depth);
            }
            if (depth >= DEEPEST) {
                fail();
                return 0;
            }
            step();
            return denied(depth + 1) == 0 ? 1 : 0;
        }

        private int compared(int depth) {
            int left = sum(depth);
            int by = sign;
            if (by != '<' && by != '=' && by != '>') {
                return left;
            }
            step();
            int right = sum(depth);
            if (by == '<') {
                return left < right ? 1 : 0;
            }
            return by == '=' ? (left == right ? 1 : 0) : (left > right ? 1 : 0);
        }

        private int sum(int depth) {
            int left = part(depth);
            for (int turn = 0; turn < TAPE && (sign == '+' || sign == '-'); turn++) {
                boolean isMore = sign == '+';
                step();
                int right = part(depth);
                left = isMore ? left + right : left - right;
            }
            return left;
        }

        private int part(int depth) {
            if (sign == NUMBER) {
                int number = worth;
                step();
                return number;
            }
            if (sign != '(' || depth >= DEEPEST) {
                fail();
                return 0;
            }
            step();
            int inner = either(depth + 1);
            if (sign == ')') {
                step();
            } else {
                fail();
            }
            return inner;
        }
    }

    /** Section 5: who holds which room's keys when. */
    private static final class Keys {
        int size;
        private final int[] persons = new int[HOLDINGS];
        private final int[] rooms = new int[HOLDINGS];
        private final int[] froms = new int[HOLDINGS];
        private final int[] tos = new int[HOLDINGS];
        private final int[] hours = new int[PERSONS];

        void become(Keys other) {
            size = other.size;
            System.arraycopy(other.persons, 0, persons, 0, HOLDINGS);
            System.arraycopy(other.rooms, 0, rooms, 0, HOLDINGS);
            System.arraycopy(other.froms, 0, froms, 0, HOLDINGS);
            System.arraycopy(other.tos, 0, tos, 0, HOLDINGS);
        }

        int given(int person, int room, int from, int to) {
            persons[size] = person;
            rooms[size] = room;
            froms[size] = from;
            tos[size] = to;
            size++;
            return size;
        }

        private int holdersAt(int room, int hour) {
            int holders = 0;
            for (int i = 0; i < size; i++) {
                if (rooms[i] == room && froms[i] <= hour && hour < tos[i]) {
                    holders |= 1 << persons[i];
                }
            }
            return holders;
        }

        int gapCount(int room, int from, int to) {
            int sum = 0;
            for (int hour = from; hour < to; hour++) {
                if (holdersAt(room, hour) == 0) {
                    sum++;
                }
            }
            return sum;
        }

        int firstGap(int room, int from, int to) {
            for (int hour = from; hour < to; hour++) {
                if (holdersAt(room, hour) == 0) {
                    return hour;
                }
            }
            return -1;
        }

        int holdersOfAtLeast(int n, int room, int from, int to) {
            Arrays.fill(hours, 0);
            for (int hour = from; hour < to; hour++) {
                int holders = holdersAt(room, hour);
                for (int person = 0; person < PERSONS; person++) {
                    hours[person] += holders >>> person & 1;
                }
            }
            int set = 0;
            for (int person = 0; person < PERSONS; person++) {
                if (hours[person] >= n) {
                    set |= 1 << person;
                }
            }
            return set;
        }
    }

    /** Section 6: forms of testing, each with the set of all kinds it bars, those under them too. */
    private static final class Forms {
        int size;
        private final int[] prices = new int[FORMS];
        private final int[] barred = new int[FORMS];

        void become(Forms other) {
            size = other.size;
            System.arraycopy(other.prices, 0, prices, 0, FORMS);
            System.arraycopy(other.barred, 0, barred, 0, FORMS);
        }

        int made(int price, int bars) {
            int form = size;
            prices[form] = price;
            barred[form] = withThoseUnder(bars);
            size++;
            return form;
        }

        private static int withThoseUnder(int bars) {
            int all = 0;
            for (int kind = 0; kind < KINDS; kind++) {
                if (has(bars, kind)) {
                    all |= UNDER[kind];
                }
            }
            return all;
        }

        /** The best set of forms that bars these kinds, -1 if none does. */
        int cheapestSet(int kinds) {
            int best = -1;
            for (int set = 0; set < (1 << size); set++) {
                if ((kinds & ~barredBy(set)) == 0 && (best < 0 || isBetter(set, best))) {
                    best = set;
                }
            }
            return best;
        }

        /** Sets come from the least on, so of sets alike the one that was there stays. */
        private boolean isBetter(int set, int than) {
            int price = priceOf(set);
            int otherPrice = priceOf(than);
            return price < otherPrice
                    || price == otherPrice && Integer.bitCount(set) < Integer.bitCount(than);
        }

        private int barredBy(int set) {
            int all = 0;
            for (int form = 0; form < size; form++) {
                if (has(set, form)) {
                    all |= barred[form];
                }
            }
            return all;
        }

        int priceOf(int set) {
            int price = 0;
            for (int form = 0; form < size; form++) {
                if (has(set, form)) {
                    price += prices[form];
                }
            }
            return price;
        }
    }

    /** Section 7: a row of numbers; of 0 bits it is missing. */
    private static final class Slip {
        int bits;
        int size;
        final int[] numbers = new int[SLIP_NUMBERS];

        boolean isMissing() {
            return bits == 0;
        }

        int renewed(int newBits, int n) {
            bits = newBits;
            size = newBits == 0 ? 0 : n;
            Arrays.fill(numbers, 0);
            return size;
        }

        int lowestBits(int v) {
            if (bits == 8) {
                return (byte) v;
            }
            return bits == 16 ? (short) v : v;
        }

        boolean areWithin(int least, int most) {
            for (int i = 0; i < size; i++) {
                if (!isWithin(numbers[i], least, most)) {
                    return false;
                }
            }
            return true;
        }

        boolean hasPart(int from, int n) {
            return from >= 0 && n >= 0 && from <= size - n;
        }
    }
}

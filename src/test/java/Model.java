import java.io.ByteArrayInputStream;
import java.io.ByteArrayOutputStream;
import java.io.IOException;
import java.io.ObjectInputStream;
import java.io.ObjectOutputStream;
import java.io.Serializable;
import java.util.ArrayDeque;
import java.util.ArrayList;
import java.util.Arrays;
import java.util.Comparator;
import java.util.Deque;
import java.util.HashMap;
import java.util.List;
import java.util.Map;
import java.util.TreeMap;
import java.util.TreeSet;
import java.util.function.IntPredicate;

/**
 * The document once more, slow and by other means (maps, brute force, texts split at their signs), so
 * that ModelTest can hold the class against it. It throws its findings.
 */
final class Model {
    private static final int BLANK = -1;
    private static final int[] ABOVE = {-1, 0, 1, 0, 0, 0, 5, 1};
    private static final List<String> NAMES = List.of("wr", "rw", "row", "fit", "fall", "size");

    private static final class Finding extends RuntimeException {
        private static final long serialVersionUID = 1L;
        private final int code;

        Finding(int code) {
            this.code = code;
        }
    }

    private static final class Sheet implements Serializable {
        private static final long serialVersionUID = 1L;
        private final int[] choice = new int[12];
        private final int[] kind = new int[12];
        private int wr;
        private int rw;
        private int ww;

        Sheet() {
            Arrays.fill(choice, BLANK);
        }
    }

    private static final class Child implements Serializable {
        private static final long serialVersionUID = 1L;
        private int room;
        private int seat;
        private final TreeSet<Integer> knows = new TreeSet<>();
        private final TreeSet<Integer> taught = new TreeSet<>();
        private final TreeMap<Integer, Sheet> sheets = new TreeMap<>();
    }

    private static final class State implements Serializable {
        private static final long serialVersionUID = 1L;
        private int year;
        private int rooms;
        private final int[] key = new int[12];
        private final int[] hard = new int[12];
        private final ArrayList<Child> children = new ArrayList<>();
        private final ArrayList<String> ways = new ArrayList<>();
        private final ArrayList<int[]> holds = new ArrayList<>();
        private final ArrayList<int[]> forms = new ArrayList<>();
    }

    private interface Act {
        int answer();
    }

    private State s = new State();
    private byte[] kept = null;
    private final StringBuilder tape = new StringBuilder();
    private final long[][] slips = new long[4][];
    private final int[] slipBits = new int[4];
    private final Map<Integer, Integer> findings = new HashMap<>();
    private int looks = 0;

    private int tell(Act act) {
        try {
            return act.answer();
        } catch (Finding f) {
            findings.merge(f.code, 1, Integer::sum);
            return f.code;
        }
    }

    private static void ask(boolean is, int code) {
        if (!is) {
            throw new Finding(code);
        }
    }

    private static void in(int v, int least, int most) {
        ask(v >= least && v <= most, Due.BEYOND);
    }

    private Child theChild(int child) {
        in(child, 0, s.children.size() - 1);
        return s.children.get(child);
    }

    private void theRoom(int room) {
        in(room, 0, s.rooms - 1);
    }

    private static boolean under(int kind, int top) {
        return kind == top || kind > 0 && under(ABOVE[kind], top);
    }

    private static int bits(TreeSet<Integer> set) {
        return set.stream().mapToInt(i -> 1 << i).sum();
    }

    private static int count(int n, IntPredicate is) {
        int sum = 0;
        for (int i = 0; i < n; i++) {
            sum += is.test(i) ? 1 : 0;
        }
        return sum;
    }

    private int right(Sheet sheet) {
        return count(12, q -> sheet.choice[q] == s.key[q]);
    }

    private int unfit(Sheet sheet) {
        int pairs = 0;
        for (int a = 0; a < 12; a++) {
            for (int b = 0; b < 12; b++) {
                boolean one = sheet.choice[a] == s.key[a];
                boolean other = sheet.choice[b] == s.key[b];
                pairs += one && !other && s.hard[a] > s.hard[b] ? 1 : 0;
            }
        }
        return pairs;
    }

    private static int putsOf(Sheet sheet) {
        return count(12, q -> sheet.choice[q] >= 0 && under(sheet.kind[q], 5));
    }

    private int marking(Sheet sheet, int q, int kind, int choice) {
        int was = sheet.choice[q];
        if (was == choice) {
            return 0;
        }
        boolean wasRight = was == s.key[q];
        boolean isRight = choice == s.key[q];
        if (was >= 0) {
            sheet.rw += wasRight ? 1 : 0;
            sheet.wr += !wasRight && isRight ? 1 : 0;
            sheet.ww += !wasRight && !isRight ? 1 : 0;
        }
        sheet.choice[q] = choice;
        sheet.kind[q] = kind;
        return 1;
    }

    private List<Sheet> sheetsOf(int room, int year) {
        List<Sheet> all = new ArrayList<>();
        for (Child c : s.children) {
            if (c.room == room && c.sheets.containsKey(year)) {
                all.add(c.sheets.get(year));
            }
        }
        return all;
    }

    private int measureOf(int room, int year, int m) {
        int sum = 0;
        for (Sheet sheet : sheetsOf(room, year)) {
            sum += m == 0 ? sheet.wr : m == 1 ? sheet.rw : m == 3 ? unfit(sheet) : m == 5 ? 1 : m == 6 ? putsOf(sheet) : 0;
        }
        if (m == 2) {
            return stringOf(room, year, 3)[0];
        }
        if (m == 4) {
            for (Child c : s.children) {
                if (c.room == room && c.sheets.containsKey(year) && c.sheets.containsKey(year + 1)) {
                    sum += right(c.sheets.get(year)) - right(c.sheets.get(year + 1));
                }
            }
        }
        return sum;
    }

    /** Length, first question, members. */
    private int[] stringOf(int room, int year, int k) {
        List<int[]> found = new ArrayList<>();
        for (int from = 0; from < 12; from++) {
            for (int to = from + 1; to <= 12; to++) {
                Map<String, TreeSet<Integer>> alike = new HashMap<>();
                for (int c = 0; c < s.children.size(); c++) {
                    Child child = s.children.get(c);
                    if (child.room == room && child.sheets.containsKey(year)) {
                        String row = Arrays.toString(Arrays.copyOfRange(child.sheets.get(year).choice, from, to));
                        if (!row.contains("-")) {
                            alike.computeIfAbsent(row, r -> new TreeSet<>()).add(c);
                        }
                    }
                }
                for (TreeSet<Integer> group : alike.values()) {
                    if (group.size() >= k) {
                        found.add(new int[] {to - from, from, bits(group)});
                    }
                }
            }
        }
        Comparator<int[]> order = Comparator.<int[]>comparingInt(f -> -f[0])
                .thenComparingInt(f -> -Integer.bitCount(f[2])).thenComparingInt(f -> f[1]).thenComparingInt(f -> f[2]);
        return found.stream().min(order).orElse(new int[] {0, -1, 0});
    }

    // ---- questions, rooms, children

    int question(int q, int what, int v) {
        return tell(() -> {
            in(q, 0, 11);
            in(what, 0, 1);
            in(v, 0, what == 0 ? 3 : 9);
            int[] row = what == 0 ? s.key : s.hard;
            int was = row[q];
            row[q] = v;
            return was;
        });
    }

    int room() {
        return tell(() -> {
            ask(s.rooms < 6, Due.FULL);
            return s.rooms++;
        });
    }

    int child(int room, int seat) {
        return tell(() -> {
            theRoom(room);
            in(seat, 0, 19);
            ask(s.children.stream().noneMatch(c -> c.room == room && c.seat == seat), Due.STATE);
            ask(s.children.size() < 24, Due.FULL);
            Child c = new Child();
            c.room = room;
            c.seat = seat;
            s.children.add(c);
            return s.children.size() - 1;
        });
    }

    int learn(int child, int q, boolean taught) {
        return tell(() -> {
            Child c = theChild(child);
            in(q, 0, 11);
            boolean isNew = c.knows.add(q);
            return (taught && c.taught.add(q)) | isNew ? 1 : 0;
        });
    }

    int forget(int child, int q) {
        return tell(() -> {
            Child c = theChild(child);
            in(q, 0, 11);
            c.taught.remove(q);
            return c.knows.remove(q) ? 1 : 0;
        });
    }

    int childIs(int child, int what) {
        return tell(() -> {
            Child c = theChild(child);
            in(what, 0, 4);
            return List.of(c.room, c.seat, bits(c.knows), bits(c.taught), c.sheets.size()).get(what);
        });
    }

    int year() {
        return tell(() -> {
            ask(s.year < 5, Due.FULL);
            return ++s.year;
        });
    }

    // ---- tests, hands

    int sit(int child, int lots) {
        return tell(() -> {
            Child c = theChild(child);
            ask(!c.sheets.containsKey(s.year), Due.STATE);
            Sheet sheet = new Sheet();
            c.sheets.put(s.year, sheet);
            int l = lots;
            for (int q = 0; q < 12; q++) {
                if (c.knows.contains(q)) {
                    sheet.choice[q] = s.key[q];
                    sheet.kind[q] = c.taught.contains(q) ? 2 : 1;
                    continue;
                }
                l = (int) (l * 1103515245L + 12345L);
                long rest = (Integer.toUnsignedLong(l) / 65536) % 5;
                if (rest != 4) {
                    sheet.choice[q] = (int) rest;
                    sheet.kind[q] = 7;
                }
            }
            return right(sheet);
        });
    }

    private int theSlip(int slip) {
        in(slip, 0, 3);
        return slip;
    }

    int read(int child, int slip) {
        return tell(() -> {
            Child c = theChild(child);
            long[] row = slips[theSlip(slip)];
            ask(row != null, Due.MISSING);
            ask(row.length == 12, Due.SIZE);
            for (long v : row) {
                in((int) v, -1, 3);
            }
            ask(!c.sheets.containsKey(s.year), Due.STATE);
            Sheet sheet = new Sheet();
            for (int q = 0; q < 12; q++) {
                sheet.choice[q] = (int) row[q];
            }
            c.sheets.put(s.year, sheet);
            return right(sheet);
        });
    }

    int mark(int child, int q, int kind, int choice) {
        return tell(() -> {
            Child c = theChild(child);
            in(q, 0, 11);
            in(kind, 0, 7);
            in(choice, -1, 3);
            ask(c.sheets.containsKey(s.year), Due.STATE);
            return marking(c.sheets.get(s.year), q, kind, choice);
        });
    }

    int copies(int child, int other) {
        return tell(() -> {
            Child c = theChild(child);
            Child o = theChild(other);
            ask(c.sheets.containsKey(s.year) && o.sheets.containsKey(s.year), Due.STATE);
            ask(c != o && c.room == o.room && (c.seat + 1 == o.seat || o.seat + 1 == c.seat), Due.STATE);
            int n = 0;
            for (int q = 0; q < 12; q++) {
                int choice = o.sheets.get(s.year).choice[q];
                n += choice < 0 ? 0 : marking(c.sheets.get(s.year), q, 3, choice);
            }
            return n;
        });
    }

    int said(int room, int q) {
        return tell(() -> {
            theRoom(room);
            in(q, 0, 11);
            return sheetsOf(room, s.year).stream().mapToInt(sheet -> marking(sheet, q, 4, s.key[q])).sum();
        });
    }

    int puts(int room, int n) {
        return tell(() -> {
            theRoom(room);
            in(n, 1, 99);
            int left = n;
            for (Sheet sheet : sheetsOf(room, s.year)) {
                for (int q = 0; q < 12; q++) {
                    if (left > 0 && sheet.choice[q] >= 0 && sheet.choice[q] != s.key[q]) {
                        left -= marking(sheet, q, 5, s.key[q]);
                    }
                }
            }
            return n - left;
        });
    }

    int fills(int room) {
        return tell(() -> {
            theRoom(room);
            int n = 0;
            for (Sheet sheet : sheetsOf(room, s.year)) {
                for (int q = 0; q < 12; q++) {
                    n += sheet.choice[q] < 0 ? marking(sheet, q, 6, s.key[q]) : 0;
                }
            }
            return n;
        });
    }

    int leaves(int child) {
        return tell(() -> {
            Child c = theChild(child);
            ask(c.sheets.containsKey(s.year), Due.NONE);
            return right(c.sheets.remove(s.year));
        });
    }

    // ---- sheets

    private Sheet theSheet(Child c, int year) {
        ask(c.sheets.containsKey(year), Due.NONE);
        return c.sheets.get(year);
    }

    int bubble(int child, int year, int q, int what) {
        return tell(() -> {
            Child c = theChild(child);
            in(year, 0, 5);
            in(q, 0, 11);
            in(what, 0, 2);
            Sheet sheet = theSheet(c, year);
            return what == 0 ? sheet.choice[q] : what == 1 ? sheet.kind[q] : sheet.choice[q] == s.key[q] ? 1 : 0;
        });
    }

    int sheetIs(int child, int year, int what) {
        return tell(() -> {
            Child c = theChild(child);
            in(year, 0, 5);
            in(what, 0, 6);
            Sheet sheet = theSheet(c, year);
            int blank = count(12, q -> sheet.choice[q] < 0);
            return new int[] {right(sheet), blank, sheet.wr, sheet.rw, sheet.ww, unfit(sheet), putsOf(sheet)}[what];
        });
    }

    int weight(int kind, int n) {
        return tell(() -> {
            in(kind, 0, 7);
            long w = n;
            return (int) new long[] {w, w + 2, 3 * w + 6, w / 2, w - 1, -w, -w - w, w + 1}[kind];
        });
    }

    int as(int child, int year, int q, int kind) {
        return tell(() -> {
            Child c = theChild(child);
            in(year, 0, 5);
            in(q, 0, 11);
            in(kind, 0, 7);
            Sheet sheet = theSheet(c, year);
            ask(under(sheet.kind[q], kind), Due.KIND);
            return sheet.choice[q];
        });
    }

    // ---- rooms

    private boolean isSat(int room, int year) {
        return !sheetsOf(room, year).isEmpty();
    }

    int measure(int room, int year, int m) {
        return tell(() -> {
            theRoom(room);
            in(year, 0, 5);
            in(m, 0, 6);
            ask(isSat(room, year), Due.NONE);
            looks++;
            return measureOf(room, year, m);
        });
    }

    int looked() {
        return looks;
    }

    int string(int room, int year, int k, int what) {
        return tell(() -> {
            theRoom(room);
            in(year, 0, 5);
            in(k, 2, 9);
            in(what, 0, 2);
            return stringOf(room, year, k)[what];
        });
    }

    int odd(int room, int year, int m, int what) {
        return tell(() -> {
            theRoom(room);
            in(year, 0, 5);
            in(m, 0, 6);
            in(what, 0, 1);
            ask(isSat(room, year), Due.NONE);
            int own = measureOf(room, year, m);
            return count(s.rooms, r -> isSat(r, year) && (what == 1 || measureOf(r, year, m) >= own));
        });
    }

    // ---- ways

    int feed(int bytes, int n) {
        return tell(() -> {
            in(n, 1, 4);
            ask(tape.length() + n <= 100, Due.FULL);
            for (int i = 4 - n; i < 4; i++) {
                tape.append((char) (bytes << (8 * i) >>> 24));
            }
            return tape.length();
        });
    }

    int wipe() {
        int had = tape.length();
        tape.setLength(0);
        return had;
    }

    /** A token's text and its place. */
    private record Token(String text, int place) {
        boolean isWorth() {
            return NAMES.contains(text) || text.matches("[0-9]{1,4}");
        }

        boolean isOneOf(String signs) {
            return text.length() == 1 && signs.contains(text);
        }
    }

    private static List<Token> tokens(String text) {
        List<Token> all = new ArrayList<>();
        java.util.regex.Matcher m =
                java.util.regex.Pattern.compile("[a-z]+|[0-9]+|[^ ]", java.util.regex.Pattern.DOTALL).matcher(text);
        while (m.find()) {
            all.add(new Token(m.group(), m.start()));
        }
        return all;
    }

    private static void endDenials(Deque<String> open) {
        while ("!".equals(open.peek())) {
            open.pop();
        }
    }

    /** The fault's place, or -1: what may stand next is told by what stood ahead and by what is open. */
    private static int fault(String text) {
        Deque<String> open = new ArrayDeque<>();
        boolean needs = true;
        boolean fresh = true;
        boolean compared = false;
        for (Token t : tokens(text)) {
            if (needs && t.isWorth()) {
                needs = false;
            } else if (needs && t.isOneOf("(") && open.size() < 6) {
                open.push(compared ? "(c" : "(");
                compared = false;
                fresh = true;
                continue;
            } else if (needs && fresh && t.isOneOf("!") && open.size() < 6) {
                open.push("!");
                continue;
            } else if (!needs && t.isOneOf("+-")) {
                needs = true;
            } else if (!needs && !compared && t.isOneOf("<=>")) {
                needs = true;
                compared = true;
            } else if (!needs && t.isOneOf("|&")) {
                endDenials(open);
                needs = true;
                compared = false;
                fresh = true;
                continue;
            } else if (!needs && t.isOneOf(")")) {
                endDenials(open);
                if (open.isEmpty()) {
                    return t.place;
                }
                compared = open.pop().equals("(c");
            } else {
                return t.place;
            }
            fresh = false;
        }
        endDenials(open);
        return needs || !open.isEmpty() ? text.length() : -1;
    }

    int way() {
        return tell(() -> {
            ask(s.ways.size() < 6, Due.FULL);
            String text = tape.toString();
            tape.setLength(0);
            int fault = fault(text);
            if (fault >= 0) {
                return -1 - fault;
            }
            s.ways.add(text);
            return s.ways.size() - 1;
        });
    }

    /** The last of these signs that no bracket holds, or -1. */
    private static int lastOf(List<Token> all, String signs) {
        int depth = 0;
        for (int i = all.size() - 1; i >= 0; i--) {
            Token t = all.get(i);
            depth += t.isOneOf(")") ? 1 : t.isOneOf("(") ? -1 : 0;
            if (depth == 0 && t.isOneOf(signs)) {
                return i;
            }
        }
        return -1;
    }

    private int worth(List<Token> all, int room, int year) {
        for (String signs : List.of("|", "&", "!", "<=>", "+-")) {
            if (signs.equals("!")) {
                if (all.get(0).isOneOf("!")) {
                    return worth(all.subList(1, all.size()), room, year) == 0 ? 1 : 0;
                }
                continue;
            }
            int at = lastOf(all, signs);
            if (at >= 0) {
                int left = worth(all.subList(0, at), room, year);
                int right = worth(all.subList(at + 1, all.size()), room, year);
                switch (all.get(at).text) {
                    case "|": return left != 0 | right != 0 ? 1 : 0;
                    case "&": return left != 0 & right != 0 ? 1 : 0;
                    case "<": return left < right ? 1 : 0;
                    case "=": return left == right ? 1 : 0;
                    case ">": return left > right ? 1 : 0;
                    case "+": return left + right;
                    default: return left - right;
                }
            }
        }
        Token one = all.get(0);
        if (one.isOneOf("(")) {
            return worth(all.subList(1, all.size() - 1), room, year);
        }
        int m = NAMES.indexOf(one.text);
        return m >= 0 ? measureOf(room, year, m) : Integer.parseInt(one.text);
    }

    int says(int way, int room, int year) {
        return tell(() -> {
            in(way, 0, s.ways.size() - 1);
            theRoom(room);
            in(year, 0, 5);
            ask(isSat(room, year), Due.NONE);
            return worth(tokens(s.ways.get(way)), room, year);
        });
    }

    int judges(int way, int year, int what) {
        return tell(() -> {
            in(way, 0, s.ways.size() - 1);
            in(year, 0, 5);
            in(what, 0, 2);
            int set = 0;
            for (int room = 0; room < s.rooms; room++) {
                if (!isSat(room, year)) {
                    continue;
                }
                boolean flagged = worth(tokens(s.ways.get(way)), room, year) != 0;
                boolean helped = measureOf(room, year, 6) > 0;
                boolean is = what == 0 ? flagged : what == 1 ? flagged && !helped : helped && !flagged;
                set += is ? 1 << room : 0;
            }
            return set;
        });
    }

    int line(int m, int year, int what) {
        return tell(() -> {
            in(m, 0, 5);
            in(year, 0, 5);
            in(what, 0, 2);
            List<int[]> rooms = new ArrayList<>();
            for (int room = 0; room < s.rooms; room++) {
                if (isSat(room, year)) {
                    rooms.add(new int[] {measureOf(room, year, m), measureOf(room, year, 6)});
                }
            }
            ask(!rooms.isEmpty(), Due.NONE);
            int[] best = null;
            for (int line = 0; line <= 9999; line++) {
                int wronged = 0;
                int missed = 0;
                for (int[] r : rooms) {
                    wronged += r[0] >= line && r[1] == 0 ? 1 : 0;
                    missed += r[0] < line && r[1] > 0 ? 1 : 0;
                }
                if (best == null || wronged + missed < best[1] + best[2]
                        || wronged + missed == best[1] + best[2] && wronged < best[1]) {
                    best = new int[] {line, wronged, missed};
                }
            }
            return best[what];
        });
    }

    // ---- keys, forms

    private static void theHours(int from, int to) {
        in(from, 0, 99);
        in(to, 0, 99);
        ask(to > from, Due.BEYOND);
    }

    int holds(int person, int room, int from, int to) {
        return tell(() -> {
            in(person, 0, 9);
            theRoom(room);
            theHours(from, to);
            ask(s.holds.size() < 30, Due.FULL);
            s.holds.add(new int[] {person, room, from, to});
            return s.holds.size();
        });
    }

    private boolean isHeld(int person, int room, int hour) {
        return s.holds.stream().anyMatch(
                h -> (person < 0 || h[0] == person) && h[1] == room && h[2] <= hour && hour < h[3]);
    }

    int gaps(int room, int from, int to, int what) {
        return tell(() -> {
            theRoom(room);
            theHours(from, to);
            in(what, 0, 1);
            TreeSet<Integer> gaps = new TreeSet<>();
            for (int hour = from; hour < to; hour++) {
                if (!isHeld(-1, room, hour)) {
                    gaps.add(hour);
                }
            }
            return what == 0 ? gaps.size() : gaps.isEmpty() ? -1 : gaps.first();
        });
    }

    int could(int room, int from, int to, int n) {
        return tell(() -> {
            theRoom(room);
            theHours(from, to);
            in(n, 1, 99);
            int set = 0;
            for (int person = 0; person < 10; person++) {
                int p = person;
                set += count(to - from, i -> isHeld(p, room, from + i)) >= n ? 1 << p : 0;
            }
            return set;
        });
    }

    int form(int price, int bars) {
        return tell(() -> {
            in(price, 0, 99);
            in(bars, 0, 255);
            ask(s.forms.size() < 8, Due.FULL);
            s.forms.add(new int[] {price, bars});
            return s.forms.size() - 1;
        });
    }

    private boolean isBarred(int kind, int set) {
        for (int k = kind; k >= 0; k = ABOVE[k]) {
            for (int f = 0; f < s.forms.size(); f++) {
                if ((set >> f & 1) == 1 && (s.forms.get(f)[1] >> k & 1) == 1) {
                    return true;
                }
            }
        }
        return false;
    }

    int cheapest(int kinds, int what) {
        return tell(() -> {
            in(kinds, 0, 255);
            in(what, 0, 1);
            List<int[]> able = new ArrayList<>();
            for (int set = 0; set < 1 << s.forms.size(); set++) {
                int chosen = set;
                if (count(8, k -> (kinds >> k & 1) == 1 && !isBarred(k, chosen)) == 0) {
                    int price = 0;
                    for (int f = 0; f < s.forms.size(); f++) {
                        price += (set >> f & 1) * s.forms.get(f)[0];
                    }
                    able.add(new int[] {price, set});
                }
            }
            ask(!able.isEmpty(), Due.NONE);
            able.sort(Comparator.<int[]>comparingInt(a -> a[0])
                    .thenComparingInt(a -> Integer.bitCount(a[1])).thenComparingInt(a -> a[1]));
            return able.get(0)[what];
        });
    }

    // ---- slips

    int slip(int slip, int bits, int n) {
        return tell(() -> {
            theSlip(slip);
            ask(List.of(0, 8, 16, 32).contains(bits), Due.BEYOND);
            ask(n >= 0, Due.SIZE);
            in(n, 0, 24);
            slips[slip] = bits == 0 ? null : new long[n];
            slipBits[slip] = bits;
            return bits == 0 ? 0 : n;
        });
    }

    int write(int slip, int i, int v) {
        return tell(() -> {
            long[] row = slips[theSlip(slip)];
            ask(row != null, Due.MISSING);
            in(i, 0, row.length - 1);
            long round = 1L << slipBits[slip];
            long low = Math.floorMod((long) v, round);
            row[i] = low >= round / 2 ? low - round : low;
            return 1;
        });
    }

    int copy(int a, int from, int b, int to, int n) {
        return tell(() -> {
            theSlip(a);
            theSlip(b);
            ask(slips[a] != null && slips[b] != null, Due.MISSING);
            ask(slipBits[a] == slipBits[b], Due.KIND);
            ask(from >= 0 && to >= 0 && n >= 0, Due.BEYOND);
            ask((long) from + n <= slips[a].length && (long) to + n <= slips[b].length, Due.BEYOND);
            long[] were = slips[a].clone();
            for (int i = 0; i < n; i++) {
                slips[b][to + i] = were[from + i];
            }
            return n;
        });
    }

    int check(int room, int year, int slip) {
        return tell(() -> {
            theRoom(room);
            in(year, 0, 5);
            long[] row = slips[theSlip(slip)];
            ask(row != null, Due.MISSING);
            ask(isSat(room, year), Due.NONE);
            int i = 0;
            while (i < row.length && i < 7 && row[i] == measureOf(room, year, i)) {
                i++;
            }
            return i;
        });
    }

    // ---- images

    int image() {
        try {
            ByteArrayOutputStream bytes = new ByteArrayOutputStream();
            try (ObjectOutputStream out = new ObjectOutputStream(bytes)) {
                out.writeObject(s);
            }
            kept = bytes.toByteArray();
            return 1;
        } catch (IOException e) {
            throw new IllegalStateException(e);
        }
    }

    int undo() {
        return tell(() -> {
            ask(kept != null, Due.NONE);
            try (ObjectInputStream in = new ObjectInputStream(new ByteArrayInputStream(kept))) {
                s = (State) in.readObject();
            } catch (IOException | ClassNotFoundException e) {
                throw new IllegalStateException(e);
            }
            return s.year;
        });
    }

    int tear() {
        int had = kept == null ? 0 : 1;
        kept = null;
        return had;
    }

    int count(int what) {
        return tell(() -> {
            in(what, 0, 10);
            int open = 0;
            int all = 0;
            int choices = 0;
            int rights = 0;
            for (Child c : s.children) {
                open += c.sheets.containsKey(s.year) ? 1 : 0;
                all += c.sheets.size();
                for (Sheet sheet : c.sheets.values()) {
                    choices += count(12, q -> sheet.choice[q] >= 0);
                    rights += right(sheet);
                }
            }
            return new int[] {s.rooms, s.children.size(), open, all, s.ways.size(), s.forms.size(), s.holds.size(),
                tape.length(), s.year, choices, rights}[what];
        });
    }

    int status(int which) {
        return tell(() -> {
            in(which, -1, 6);
            return which < 0 ? findings.values().stream().mapToInt(i -> i).sum()
                    : findings.getOrDefault(Due.BEYOND - which, 0);
        });
    }
}

import java.lang.reflect.InvocationTargetException;
import java.lang.reflect.Method;
import java.util.ArrayList;
import java.util.Arrays;
import java.util.List;
import java.util.Random;

/** Runs of drawn calls, from fixed seeds: the class and the Model answer alike, whatever is asked. */
public final class ModelTest {
    private static final int RUNS = Integer.getInteger("rubbed.runs", 600);
    private static final int CALLS = 512;

    /** A call's name, how often it is drawn, and what its arguments are drawn from: least and most. */
    private static final String[] CALLS_DRAWN = {
        "question 8 0:11 0:1 0:9", "question 4 0:11 0:0 0:3", "room 1", "child 5 room 0:19", "child 4 room 0:4",
        "learn 8 child 0:11 0:1", "forget 3 child 0:11", "childIs 6 child 0:4", "year 1",
        "sit 25 child any", "sit 12 child 0:2", "read 8 child 0:3", "mark 30 child 0:11 0:7 -1:3",
        "copies 25 child child", "said 6 room 0:11", "puts 4 room 1:99", "puts 5 room 1:6", "fills 2 room",
        "leaves 4 child", "bubble 15 child year 0:11 0:2", "sheetIs 20 child year 0:6", "weight 3 0:7 any",
        "as 8 child year 0:11 0:7", "measure 30 room year 0:6", "looked 2", "string 25 room year 2:9 0:2",
        "string 15 room year 2:4 0:2", "odd 8 room year 0:6 0:1", "feed 2 any 1:4", "wipe 1", "way 1", "text 8",
        "says 14 0:5 room year", "judges 14 0:5 year 0:2", "line 10 0:5 year 0:2", "holds 6 0:9 room hour hour",
        "gaps 5 room hour hour 0:1", "could 5 room hour hour 1:99", "could 4 room hour hour 1:9", "form 3 0:99 0:255",
        "form 2 0:3 bit", "cheapest 5 0:255 0:1", "cheapest 5 bit 0:1", "slip 4 0:3 bits 0:24", "slip 6 0:3 bits 12:12",
        "write 12 0:3 0:23 -1:3", "write 4 0:3 0:11 any", "copy 6 0:3 0:24 0:3 0:24 0:24", "copy 4 0:3 0:4 0:3 0:4 0:9",
        "check 8 room year 0:3", "image 2", "undo 2", "tear 1", "count 8 0:10", "status 4 -1:6",
    };

    private final Random random;
    private final RubbedSheets sheets = new RubbedSheets();
    private final Model model = new Model();
    private final List<String> told = new ArrayList<>();
    private int calls = 0;

    private ModelTest(long seed) {
        random = new Random(seed);
    }

    public static void main(String[] args) throws ReflectiveOperationException {
        int[] found = new int[8];
        for (int seed = 0; seed < RUNS; seed++) {
            ModelTest run = new ModelTest(seed);
            if (!run.isAlike()) {
                System.out.println("seed " + seed + ":");
                run.told.forEach(System.out::println);
                System.exit(1);
            }
            for (int which = -1; which <= 6; which++) {
                found[which + 1] += run.model.status(which);
            }
        }
        System.out.println("ModelTest: " + RUNS + " runs of " + CALLS + " calls alike; findings " + Arrays.toString(found));
    }

    private boolean isAlike() throws ReflectiveOperationException {
        int rooms = random.nextInt(7);
        for (int i = 0; i < rooms; i++) {
            ask("room");
        }
        int children = random.nextInt(25);
        for (int i = 0; i < children; i++) {
            if (!ask("child", draw("room"), random.nextInt(random.nextBoolean() ? 6 : 20))) {
                return false;
            }
        }
        while (calls < CALLS) {
            if (!isNextAlike()) {
                return false;
            }
        }
        return true;
    }

    private boolean isNextAlike() throws ReflectiveOperationException {
        String[] words = drawCall().split(" ");
        if (words[0].equals("text")) {
            return isTextAlike();
        }
        int[] drawn = new int[words.length - 2];
        for (int i = 0; i < drawn.length; i++) {
            drawn[i] = draw(words[i + 2]);
        }
        return ask(words[0], drawn);
    }

    private static int oftenOf(String call) {
        return Integer.parseInt(call.split(" ")[1]);
    }

    private String drawCall() {
        int all = Arrays.stream(CALLS_DRAWN).mapToInt(ModelTest::oftenOf).sum();
        int at = random.nextInt(all);
        for (String call : CALLS_DRAWN) {
            at -= oftenOf(call);
            if (at < 0) {
                return call;
            }
        }
        throw new IllegalStateException();
    }

    private int draw(String from) {
        int[] edges = {Integer.MIN_VALUE, Integer.MAX_VALUE, -1, 0, 1, 255, 256, 65535, -1000001};
        switch (from) {
            case "any":
                return random.nextInt(4) == 0 ? edges[random.nextInt(edges.length)] : random.nextInt();
            case "bits":
                return new int[] {0, 8, 8, 8, 16, 32, 7}[random.nextInt(7)];
            case "bit":
                return 1 << random.nextInt(8);
            case "hour":
                return random.nextInt(50) == 0 ? random.nextInt(3) * 100 - 100 : random.nextInt(100);
            case "room":
                return drawWithin(0, Math.max(0, model.count(0) - 1));
            case "child":
                return drawWithin(0, Math.max(0, model.count(1) - 1));
            case "year":
                return random.nextInt(3) > 0 ? model.count(8) : drawWithin(0, 5);
            default:
                String[] ends = from.split(":");
                return drawWithin(Integer.parseInt(ends[0]), Integer.parseInt(ends[1]));
        }
    }

    private int drawWithin(int least, int most) {
        int odd = random.nextInt(100);
        if (odd == 0) {
            return least - 1;
        }
        if (odd == 1) {
            return most + 1;
        }
        if (odd == 2) {
            return random.nextBoolean() ? Integer.MAX_VALUE : Integer.MIN_VALUE;
        }
        return least + random.nextInt(most - least + 1);
    }

    private boolean isTextAlike() throws ReflectiveOperationException {
        StringBuilder text = new StringBuilder();
        int most = random.nextInt(10) == 0 ? 102 : 40;
        do {
            text.setLength(0);
            drawText(text, 0);
        } while (text.length() > most);
        if (random.nextInt(3) == 0 && text.length() > 0) {
            spoil(text);
        }
        for (int at = 0; at < text.length();) {
            int n = Math.min(text.length() - at, random.nextInt(4) == 0 ? 1 + random.nextInt(4) : 4);
            int bytes = random.nextInt();
            for (int i = 0; i < n; i++) {
                bytes = bytes << 8 | text.charAt(at + i);
            }
            if (!ask("feed", bytes, n)) {
                return false;
            }
            at += n;
        }
        return ask("way");
    }

    private void spoil(StringBuilder text) {
        String signs = "wr !()|&<=>+-0195x#";
        int at = random.nextInt(text.length());
        switch (random.nextInt(3)) {
            case 0:
                text.deleteCharAt(at);
                break;
            case 1:
                text.insert(at, signs.charAt(random.nextInt(signs.length())));
                break;
            default:
                text.setCharAt(at, signs.charAt(random.nextInt(signs.length())));
        }
    }

    private void drawText(StringBuilder to, int depth) {
        drawChain(to, depth, "|", 4);
    }

    private void drawChain(StringBuilder to, int depth, String signs, int seldom) {
        drawLink(to, depth, signs);
        while (random.nextInt(seldom) == 0) {
            blanks(to);
            to.append(signs.charAt(random.nextInt(signs.length())));
            blanks(to);
            drawLink(to, depth, signs);
        }
    }

    private void drawLink(StringBuilder to, int depth, String signs) {
        if (signs.equals("|")) {
            drawChain(to, depth, "&", 4);
        } else if (signs.equals("&")) {
            int denials = Math.max(0, random.nextInt(6) - 3 + (random.nextInt(12) == 0 ? 4 : 0));
            for (int i = 0; i < denials; i++) {
                to.append('!');
                blanks(to);
            }
            drawChain(to, depth, "+-", 3);
            if (random.nextInt(2) == 0) {
                blanks(to);
                to.append("<=>".charAt(random.nextInt(3)));
                blanks(to);
                drawChain(to, depth, "+-", 3);
            }
        } else if (depth < 8 && to.length() < 200 && random.nextInt(3) == 0) {
            to.append('(');
            blanks(to);
            drawText(to, depth + 1);
            blanks(to);
            to.append(')');
        } else if (random.nextInt(3) > 0) {
            to.append(new String[] {"wr", "rw", "row", "fit", "fall", "size"}[random.nextInt(6)]);
        } else {
            to.append(random.nextInt(new int[] {3, 20, 10000, 10050}[random.nextInt(4)]));
        }
    }

    private void blanks(StringBuilder to) {
        while (random.nextInt(4) == 0) {
            to.append(' ');
        }
    }

    private boolean ask(String name, int... drawn) throws ReflectiveOperationException {
        if (calls >= CALLS) {
            // A text takes several calls; what the document promises ends amid it.
            return true;
        }
        calls++;
        int got = answer(sheets, name, drawn);
        int want = answer(model, name, drawn);
        told.add(name + Arrays.toString(drawn) + " answered " + got + (got == want ? "" : ", due is " + want));
        return got == want;
    }

    private static int answer(Object of, String name, int[] drawn) throws ReflectiveOperationException {
        for (Method method : of.getClass().getDeclaredMethods()) {
            boolean isHidden = java.lang.reflect.Modifier.isPrivate(method.getModifiers());
            if (method.getName().equals(name) && method.getParameterCount() == drawn.length && !isHidden) {
                Object[] given = new Object[drawn.length];
                for (int i = 0; i < drawn.length; i++) {
                    boolean isBit = method.getParameterTypes()[i] == boolean.class;
                    given[i] = isBit ? (Object) (drawn[i] > 0) : (Object) drawn[i];
                }
                try {
                    return (Integer) method.invoke(of, given);
                } catch (InvocationTargetException e) {
                    throw new IllegalStateException(name + Arrays.toString(drawn), e.getCause());
                }
            }
        }
        throw new IllegalArgumentException(name);
    }
}

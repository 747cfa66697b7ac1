import java.lang.management.ManagementFactory;
import java.lang.reflect.Constructor;
import java.lang.reflect.Field;
import java.lang.reflect.Method;
import java.lang.reflect.Modifier;
import java.util.Arrays;
import java.util.TreeSet;

/** The document's face (rule 1 of LANGUAGE.md), and that calls make nothing (rule 12). */
public final class FaceTest {
    private static final Due due = new Due();
    private static final String[] FACE = {
        "question(int,int,int)", "room()", "child(int,int)", "learn(int,int,boolean)", "forget(int,int)",
        "childIs(int,int)", "year()", "sit(int,int)", "read(int,int)", "mark(int,int,int,int)", "copies(int,int)",
        "said(int,int)", "puts(int,int)", "fills(int)", "leaves(int)", "bubble(int,int,int,int)",
        "sheetIs(int,int,int)", "weight(int,int)", "as(int,int,int,int)", "measure(int,int,int)", "looked()",
        "string(int,int,int,int)", "odd(int,int,int,int)", "feed(int,int)", "wipe()", "way()", "says(int,int,int)",
        "judges(int,int,int)", "line(int,int,int)", "holds(int,int,int,int)", "gaps(int,int,int,int)",
        "could(int,int,int,int)", "form(int,int)", "cheapest(int,int)", "slip(int,int,int)", "write(int,int,int)",
        "copy(int,int,int,int,int)", "check(int,int,int)", "image()", "undo()", "tear()", "count(int)", "status(int)",
    };

    public static void main(String[] args) {
        face();
        insides();
        callsMakeNothing();
        due.end("FaceTest");
    }

    private static void is(String what, boolean is) {
        due.is(what, is ? 1 : 0, 1);
    }

    private static void face() {
        Class<?> c = RubbedSheets.class;
        is("public and final", Modifier.isPublic(c.getModifiers()) && Modifier.isFinal(c.getModifiers()));
        TreeSet<String> open = new TreeSet<>();
        TreeSet<String> names = new TreeSet<>();
        for (Method m : c.getDeclaredMethods()) {
            if (Modifier.isPublic(m.getModifiers())) {
                StringBuilder said = new StringBuilder(m.getName()).append('(');
                for (Class<?> p : m.getParameterTypes()) {
                    said.append(said.charAt(said.length() - 1) == '(' ? "" : ",").append(p.getName());
                }
                open.add(said.append(')').toString());
                names.add(m.getName());
                is(m + " answers an int", m.getReturnType() == int.class && !Modifier.isStatic(m.getModifiers()));
            } else {
                is(m + " is private", Modifier.isPrivate(m.getModifiers()) || m.isSynthetic());
            }
        }
        is("the methods of the face: " + open, open.equals(new TreeSet<>(Arrays.asList(FACE))));
        for (Method m : c.getDeclaredMethods()) {
            is("no private " + m, !Modifier.isPrivate(m.getModifiers()) || !names.contains(m.getName()));
        }
        for (Constructor<?> made : c.getDeclaredConstructors()) {
            is("one public constructor", Modifier.isPublic(made.getModifiers()) && made.getParameterCount() == 0);
        }
        for (Field f : c.getDeclaredFields()) {
            is(f + " is private", Modifier.isPrivate(f.getModifiers()));
        }
    }

    private static void insides() {
        for (Class<?> c : RubbedSheets.class.getDeclaredClasses()) {
            is(c + " is not public", !Modifier.isPublic(c.getModifiers()) && !Modifier.isProtected(c.getModifiers()));
            for (Method m : c.getDeclaredMethods()) {
                boolean isNamed = Arrays.stream(FACE).anyMatch(f -> f.startsWith(m.getName() + "("));
                is(m + " bears no name of the face", !isNamed);
            }
        }
    }

    private static long made() {
        return ((com.sun.management.ThreadMXBean) ManagementFactory.getThreadMXBean())
                .getThreadAllocatedBytes(Thread.currentThread().getId());
    }

    /** All rows are made with the object: the dearest calls make nothing. */
    private static void callsMakeNothing() {
        made();
        long atFirst = made();
        RubbedSheets x = new RubbedSheets();
        long forOne = made() - atFirst;
        is("a new object takes " + forOne + " bytes", forOne < 100_000);
        use(x);
        atFirst = made();
        int sum = use(x);
        long forCalls = made() - atFirst;
        is("calls made " + forCalls + " bytes", forCalls < 1000 && sum != 1);
    }

    private static int use(RubbedSheets x) {
        int sum = x.room();
        for (int child = 0; child < 20; child++) {
            sum += x.child(0, child) + x.sit(child, child * 77);
        }
        x.wipe();
        x.feed('w' << 24 | 'r' << 16 | '+' << 8 | '1', 4);
        sum += x.way();
        for (int i = 0; i < 200; i++) {
            sum += x.image() + x.measure(0, 0, i % 7) + x.string(0, 0, 2 + i % 8, 2) + x.judges(0, 0, 2);
            sum += x.line(2, 0, 0) + x.says(0, 0, 0) + x.cheapest(i, 1) + x.could(0, 0, 99, 1) + x.count(10);
            sum += x.slip(0, 8, 24) + x.copy(0, 0, 0, 1, 23) + x.check(0, 0, 0) + x.undo() + x.form(1, 4);
        }
        return sum;
    }
}

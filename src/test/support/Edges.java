import java.lang.reflect.InvocationTargetException;
import java.lang.reflect.Method;
import java.lang.reflect.Modifier;
import java.util.ArrayList;
import java.util.Comparator;
import java.util.List;

/** What the tests of the document's edges have in common: due answers, refused calls, and objects. */
public final class Edges {
    static final Class<IndexOutOfBoundsException> INDEX = IndexOutOfBoundsException.class;
    static final Class<IllegalArgumentException> ARGUMENT = IllegalArgumentException.class;
    static final Class<IllegalStateException> STATE = IllegalStateException.class;

    private static int wrong = 0;
    private static String test = "";

    private Edges() {
    }

    /** Brings a new object into the state in which an edge is looked at. */
    interface Setup {
        void make(Watched x);
    }

    interface Call {
        double answer(Watched x);
    }

    // ---- running

    /** Runs every method of the class whose name begins with "promise", and ends the program. */
    static void runAll(Class<?> tests) {
        List<Method> found = new ArrayList<>();
        for (Method method : tests.getDeclaredMethods()) {
            if (method.getName().startsWith("promise") && Modifier.isStatic(method.getModifiers())) {
                found.add(method);
            }
        }
        found.sort(Comparator.comparingInt(Edges::promiseOf).thenComparing(Method::getName));
        for (Method method : found) {
            runOne(method);
        }
        System.out.println(found.size() + " tests, " + wrong + " answers are not as due");
        System.exit(wrong == 0 && !found.isEmpty() ? 0 : 1);
    }

    private static int promiseOf(Method method) {
        return Integer.parseInt(method.getName().replaceAll("promise([0-9]+).*", "$1"));
    }

    private static void runOne(Method method) {
        test = method.getName();
        try {
            method.setAccessible(true);
            method.invoke(null);
        } catch (InvocationTargetException e) {
            fault("the test ended with " + e.getCause());
        } catch (IllegalAccessException e) {
            fault("the test can't be run");
        }
    }

    // ---- what is due

    static void fault(String text) {
        wrong++;
        System.out.println(test + ": " + text);
    }

    static void due(String call, double got, double want) {
        if (got != want) {
            fault(call + " answered " + got + ", due is " + want);
        }
    }

    static void dueSame(String what, Object got, Object want) {
        if (!got.equals(want)) {
            fault(what + " is " + got + ", due is " + want);
        }
    }

    static void dueField(Watched x, int... values) {
        for (int field = 0; field < 5; field++) {
            due("field(" + field + ")", x.field(field), values[field]);
        }
    }

    static void dueNotice(Watched x, int notice, int... values) {
        for (int field = 0; field < 5; field++) {
            due("notice(" + notice + ", " + field + ")", x.notice(notice, field), values[field]);
        }
    }

    static void dueNotKept(Watched x, int notice) {
        dueNotice(x, notice, -1, -1, -1, -1, -1);
    }

    static void dueClerk(Watched x, int clerk, int... values) {
        for (int what = 0; what < 3; what++) {
            due("clerk(" + clerk + ", " + what + ")", x.clerk(clerk, what), values[what]);
        }
    }

    static void dueReader(Watched x, int reader, int... values) {
        for (int what = 0; what < 8; what++) {
            due("readerOf(" + reader + ", " + what + ")", x.readerOf(reader, what), values[what]);
        }
    }

    static void dueHas(Watched x, int reader, int... values) {
        for (int field = 0; field < 5; field++) {
            due("has(" + reader + ", " + field + ")", x.has(reader, field), values[field]);
        }
    }

    static void dueCounts(Watched x, int... values) {
        for (int what = 0; what < 9; what++) {
            due("count(" + what + ")", x.count(what), values[what]);
        }
    }

    // ---- refused calls

    /** The exception is exactly this one, in this state, and the call changes nothing. */
    static void refused(String call, Setup setup, Call made, Class<? extends RuntimeException> want) {
        Watched looked = madeBy(setup);
        dueThrow(call, looked, made, want);
        Watched lookedTwin = madeBy(setup);
        dueSame(call + ": all looks behind it", allLooks(looked), allLooks(lookedTwin));
        dueSame(call + ": all undone behind it", undone(looked), undone(lookedTwin));
        Watched used = madeBy(setup);
        dueThrow(call, used, made, want);
        Watched usedTwin = madeBy(setup);
        dueSame(call + ": what goes on behind it", goneOn(used), goneOn(usedTwin));
    }

    static void dueThrow(String call, Watched x, Call made, Class<? extends RuntimeException> want) {
        String got;
        try {
            got = "answer " + made.answer(x);
        } catch (RuntimeException e) {
            got = e.getClass().getName();
        }
        dueSame(call, got, want.getName());
    }

    private static Watched madeBy(Setup setup) {
        Watched x = new Watched();
        setup.make(x);
        return x;
    }

    /** Every look that the document has, and the notices a little beyond the latest one. */
    static List<Number> allLooks(Watched x) {
        List<Number> all = new ArrayList<>(undoableLooks(x));
        all.add(x.count(8));
        all.add(x.firstError());
        all.add(x.digest());
        return all;
    }

    /** All that undo brings back. */
    static List<Number> undoableLooks(Watched x) {
        List<Number> all = new ArrayList<>();
        for (int what = 0; what < 8; what++) {
            all.add(x.count(what));
        }
        for (int clerk = 0; clerk < 3; clerk++) {
            for (int what = 0; what < 3; what++) {
                all.add(x.clerk(clerk, what));
            }
        }
        for (int reader = 0; reader < 4; reader++) {
            addReader(all, x, reader);
        }
        for (int field = 0; field < 5; field++) {
            all.add(x.field(field));
        }
        int latest = x.count(0) / 2;
        for (int notice = Math.max(0, latest - 17); notice <= latest + 1; notice++) {
            for (int field = 0; field < 5; field++) {
                all.add(x.notice(notice, field));
            }
        }
        all.add(x.busy());
        all.add(x.wellShare());
        return all;
    }

    private static void addReader(List<Number> all, Watched x, int reader) {
        for (int what = 0; what < 8; what++) {
            all.add(x.readerOf(reader, what));
        }
        for (int field = 0; field < 5; field++) {
            all.add(x.has(reader, field));
        }
        all.add(x.ifRead(reader));
        all.add(x.wouldBeHalf(reader));
    }

    private static List<Number> undone(Watched x) {
        List<Number> all = new ArrayList<>();
        for (int left = x.count(8); left > 0; left--) {
            all.add(x.undo());
            all.add(x.digest());
        }
        dueThrow("undo with no saved state", x, y -> y.undo(), STATE);
        return all;
    }

    /** What no look shows: what a reader took so far, the row of clerks, the text in the buffer. */
    private static List<Number> goneOn(Watched x) {
        List<Number> all = new ArrayList<>();
        for (int reader = 0; reader < 4; reader++) {
            while (x.readerOf(reader, 0) == 1) {
                all.add(x.look(reader));
            }
            all.add(x.digest());
        }
        while (x.count(1) != -1) {
            all.add(x.done(x.count(1)));
            all.add(x.digest());
        }
        int length = x.clearBuffer();
        all.add(length);
        all.add(x.append('c'));
        all.add(x.digest());
        return all;
    }

    // ---- objects and states

    static final Setup NEW = x -> { };

    /** The clerk 2 chalks, the clerk 0 waits first and the clerk 1 behind: the row is full. */
    static final Setup FULL_ROW = x -> {
        x.come(2);
        x.come(0);
        x.come(1);
    };

    /**
     * Something of everything: notices that are no longer kept, six saved states, a reader with a
     * half notice, two amid a try, one whose try failed, a clerk who waits, and a text.
     */
    static final Setup RICH = x -> {
        posts(x, 1, 17);
        x.reader(3, false);
        x.begin(3);
        looks(x, 3, 1);
        x.come(1);
        x.chalk(4, 44);
        looks(x, 3, 5);
        x.done(1);
        x.begin(0);
        looks(x, 0, 2);
        x.come(2);
        x.come(0);
        x.begin(1);
        x.chalk(0, 99);
        x.begin(3);
        looks(x, 3, 3);
        x.chalk(1, 55);
        append(x, "c1w");
    };

    static void append(Watched x, String text) {
        for (int i = 0; i < text.length(); i++) {
            x.append(text.charAt(i));
        }
    }

    static int play(Watched x, String text) {
        append(x, text);
        return x.play();
    }

    static void looks(Watched x, int reader, int times) {
        for (int i = 0; i < times; i++) {
            x.look(reader);
        }
    }

    static void begins(Watched x, int reader, int times) {
        for (int i = 0; i < times; i++) {
            x.begin(reader);
        }
    }

    /** The clerk 0 makes one more notice, with this value in the field 0. */
    static void post(Watched x, int value) {
        x.come(0);
        x.chalk(0, value);
        x.done(0);
    }

    static void posts(Watched x, int first, int last) {
        for (int value = first; value <= last; value++) {
            post(x, value);
        }
    }

    /** A whole try of the reader, from its begin to the look at the number. */
    static int tries(Watched x, int reader) {
        x.begin(reader);
        looks(x, reader, 5);
        return x.look(reader);
    }

    static String repeated(String part, int times) {
        StringBuilder text = new StringBuilder();
        for (int i = 0; i < times; i++) {
            text.append(part);
        }
        return text.toString();
    }
}

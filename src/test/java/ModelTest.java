import java.util.ArrayDeque;
import java.util.ArrayList;
import java.util.Arrays;
import java.util.Deque;
import java.util.List;
import java.util.Random;
import java.util.TreeMap;

/**
 * Long runs of mixed calls, right and wrong ones, against a second writing of the document that
 * shares no idea with the first: lists, copies and exceptions where the class has rows and tests.
 */
public final class ModelTest {
    private static final int RUNS = 600;
    private static final int CALLS = 512;

    private static int wrong = 0;

    public static void main(String[] args) {
        for (int run = 0; run < RUNS && wrong < 20; run++) {
            // The seed is written down, so that each run is the same every time.
            runOnce(run, new Random(7919L * run + 1));
        }
        System.out.println(wrong == 0 ? "the class and the model agree" : wrong + " answers differ");
        if (wrong != 0) {
            System.exit(1);
        }
    }

    private static void runOnce(int run, Random random) {
        OddNotice x = new OddNotice();
        Model model = new Model();
        int style = random.nextInt(4);
        for (int i = 0; i < CALLS / 2; i++) {
            int call = chosenCall(random, style);
            int a = chosenNumber(random, call);
            int b = chosenNumber(random, call == 1 ? 100 : 14);
            boolean heeds = random.nextInt(3) == 0;
            String got = answer(() -> ofClass(x, call, a, b, heeds));
            String want = answer(() -> model.call(call, a, b, heeds));
            String digest = String.valueOf(x.digest());
            if (!got.equals(want) || !digest.equals(String.valueOf(model.digest()))) {
                wrong++;
                System.out.println("run " + run + ", call " + i + ": call " + call + " of " + a + ", " + b
                    + ", " + heeds + " answered " + got + ", due is " + want + "; digest " + digest
                    + ", due is " + model.digest());
                return;
            }
        }
    }

    private interface Call {
        Object answer();
    }

    private static String answer(Call call) {
        try {
            return String.valueOf(call.answer());
        } catch (RuntimeException e) {
            return e.getClass().getName();
        }
    }

    /** Some styles of run favour clerks, some readers, some texts; none of them leaves a call out. */
    private static int chosenCall(Random random, int style) {
        int[][] favoured = {{0, 1, 2}, {4, 5, 5, 5, 5, 5, 5, 0, 1, 2}, {7, 7, 7, 7, 7, 7, 7, 7, 10}, {5, 5, 5, 11}};
        if (random.nextInt(3) == 0) {
            return random.nextInt(22);
        }
        return favoured[style][random.nextInt(favoured[style].length)];
    }

    private static int chosenNumber(Random random, int call) {
        int kind = random.nextInt(40);
        if (kind == 0) {
            int[] odd = {-1, Integer.MIN_VALUE, Integer.MAX_VALUE, 5, 32, 127, 100, 21};
            return odd[random.nextInt(odd.length)];
        }
        if (call == 6) {
            return random.nextInt(kind < 20 ? 4 : 23);
        }
        if (call == 7) {
            String signs = "cdwbllll00001111223499x";
            return signs.charAt(random.nextInt(signs.length()));
        }
        if (call == 100) {
            return random.nextInt(kind < 30 ? 3 : 101);
        }
        return random.nextInt(call == 13 ? 30 : call == 14 ? 5 : call == 17 ? 10 : 4);
    }

    private static Object ofClass(OddNotice x, int call, int a, int b, boolean heeds) {
        switch (call) {
            case 0: return x.come(a);
            case 1: return x.chalk(a, b);
            case 2: return x.done(a);
            case 3: return x.reader(a, heeds);
            case 4: return x.begin(a);
            case 5: return x.look(a);
            case 6: return x.set(a);
            case 7: return x.append(a);
            case 8: return x.clearBuffer();
            case 9: return x.firstError();
            case 10: return x.play();
            case 11: return x.undo();
            case 12: return x.field(a);
            case 13: return x.notice(a, b);
            case 14: return x.clerk(a, b);
            case 15: return x.readerOf(a, b);
            case 16: return x.has(a, b);
            case 17: return x.count(a);
            case 18: return x.ifRead(a);
            case 19: return x.wouldBeHalf(a);
            case 20: return x.busy();
            default: return x.wellShare();
        }
    }

    private static final class ModelReader {
        boolean heeds = true;
        int noted = -1;
        List<Integer> values;
        List<Integer> held;
        int row;
        int failed;
        int well;

        ModelReader copy() {
            ModelReader other = new ModelReader();
            other.heeds = heeds;
            other.noted = noted;
            other.values = values == null ? null : new ArrayList<>(values);
            other.held = held;
            other.row = row;
            other.failed = failed;
            other.well = well;
            return other;
        }
    }

    private static final class ModelState {
        int number;
        Integer[] fields = {0, 0, 0, 0, 0};
        Deque<Integer> line = new ArrayDeque<>();
        int[] done = new int[3];
        TreeMap<Integer, List<Integer>> kept = new TreeMap<>();
        ModelReader[] readers = new ModelReader[4];
        int halves;
        int setting = 5;

        ModelState() {
            kept.put(0, List.of(0, 0, 0, 0, 0));
            for (int i = 0; i < 4; i++) {
                readers[i] = new ModelReader();
            }
        }

        ModelState copy() {
            ModelState other = new ModelState();
            other.number = number;
            other.fields = fields.clone();
            other.line = new ArrayDeque<>(line);
            other.done = done.clone();
            other.kept = new TreeMap<>(kept);
            for (int i = 0; i < 4; i++) {
                other.readers[i] = readers[i].copy();
            }
            other.halves = halves;
            other.setting = setting;
            return other;
        }
    }

    /** The calls do what they do at once, and throw in the midst; then the copy from before stays. */
    private static final class Model {
        private ModelState s = new ModelState();
        private final List<ModelState> saved = new ArrayList<>();
        private String buffer = "";

        Object call(int call, int a, int b, boolean heeds) {
            if (call > 6 && call != 10) {
                return looks(call, a, b);
            }
            ModelState before = s.copy();
            Object answer;
            try {
                answer = deed(call, a, b, heeds);
            } catch (RuntimeException e) {
                s = before;
                throw e;
            }
            saved.add(before);
            if (saved.size() > 6) {
                saved.remove(0);
            }
            return answer;
        }

        private Object deed(int call, int a, int b, boolean heeds) {
            switch (call) {
                case 0: return come(a);
                case 1: return chalk(a, b);
                case 2: return done(a);
                case 3: return tellReader(a, heeds);
                case 4: return begin(a);
                case 5: return look(a);
                case 6: return set(a);
                default: return play();
            }
        }

        private Object looks(int call, int a, int b) {
            switch (call) {
                case 7: return append(a);
                case 8: return clear();
                case 9: return firstError();
                case 11: return undo();
                case 12: index(a, 5); return s.fields[a];
                case 13: return notice(a, b);
                case 14: return clerk(a, b);
                case 15: return readerOf(a, b);
                case 16: return has(a, b);
                case 17: return count(a);
                case 18: return ifRead(a);
                case 19: return wouldBeHalf(a);
                case 20: return s.line.size();
                default: return share();
            }
        }

        private static void index(int number, int bound) {
            if (number < 0 || number >= bound) {
                throw new IndexOutOfBoundsException();
            }
        }

        private static void argument(boolean right) {
            if (!right) {
                throw new IllegalArgumentException();
            }
        }

        private static void state(boolean right) {
            if (!right) {
                throw new IllegalStateException();
            }
        }

        private int come(int clerk) {
            index(clerk, 3);
            state(!s.line.contains(clerk));
            s.line.addLast(clerk);
            if (s.number % 2 == 0) {
                s.number++;
                return 0;
            }
            return s.line.size() - 1;
        }

        private int chalk(int field, int value) {
            index(field, 5);
            argument(value >= 0 && value <= 99);
            state(!s.line.isEmpty());
            int previous = s.fields[field];
            s.fields[field] = value;
            return previous;
        }

        private int done(int clerk) {
            index(clerk, 3);
            state(!s.line.isEmpty() && s.line.peekFirst() == clerk);
            s.line.removeFirst();
            s.done[clerk]++;
            s.number++;
            int notice = s.number / 2;
            s.kept.put(notice, List.of(s.fields));
            while (s.kept.size() > 16) {
                s.kept.pollFirstEntry();
            }
            if (!s.line.isEmpty()) {
                s.number++;
            }
            return notice;
        }

        private int tellReader(int reader, boolean heeds) {
            index(reader, 4);
            ModelReader old = s.readers[reader];
            ModelReader anew = new ModelReader();
            anew.heeds = heeds;
            anew.failed = old.failed;
            anew.well = old.well;
            s.readers[reader] = anew;
            return old.heeds ? 1 : 0;
        }

        private boolean givenUp(ModelReader r) {
            return r.heeds && r.values == null && r.row >= s.setting;
        }

        private int begin(int reader) {
            index(reader, 4);
            ModelReader r = s.readers[reader];
            state(r.values == null && !givenUp(r));
            if (r.heeds && s.number % 2 == 1) {
                r.row++;
                r.failed++;
                return 0;
            }
            r.noted = s.number;
            r.values = new ArrayList<>();
            return 1;
        }

        private int look(int reader) {
            index(reader, 4);
            ModelReader r = s.readers[reader];
            state(r.values != null);
            if (r.values.size() < 5) {
                int value = s.fields[r.values.size()];
                r.values.add(value);
                return value;
            }
            List<Integer> all = r.values;
            boolean fails = r.heeds && r.noted != s.number;
            r.values = null;
            r.noted = -1;
            if (fails) {
                r.row++;
                r.failed++;
                return 100;
            }
            r.held = all;
            r.row = 0;
            r.well++;
            if (!s.kept.containsValue(all)) {
                s.halves++;
            }
            return 101;
        }

        private int set(int value) {
            argument(value >= 1 && value <= 20);
            int previous = s.setting;
            s.setting = value;
            return previous;
        }

        private int append(int code) {
            argument(code >= 33 && code <= 126);
            state(buffer.length() < 60);
            buffer += (char) code;
            return buffer.length();
        }

        private int clear() {
            int length = buffer.length();
            buffer = "";
            return length;
        }

        private int firstError() {
            String part = "[cd][0-2]|w[0-4][0-9][0-9]|[bl][0-3]";
            String begun = "[cd]|w|w[0-4]|w[0-4][0-9]|[bl]|";
            for (int length = 1; length <= buffer.length(); length++) {
                if (!buffer.substring(0, length).matches("(" + part + ")*(" + begun + ")")) {
                    return length - 1;
                }
            }
            return buffer.length();
        }

        private int play() {
            argument(buffer.matches("([cd][0-2]|w[0-4][0-9][0-9]|[bl][0-3])+"));
            String[] parts = buffer.split("(?=[a-z])");
            buffer = "";
            int deeds = 0;
            for (String part : parts) {
                try {
                    doPart(part.charAt(0), part.charAt(1) - '0', part.substring(2));
                } catch (IllegalStateException e) {
                    return deeds;
                }
                deeds++;
            }
            return deeds;
        }

        private void doPart(char letter, int digit, String rest) {
            switch (letter) {
                case 'c': come(digit); break;
                case 'd': done(digit); break;
                case 'w': chalk(digit, Integer.parseInt(rest)); break;
                case 'b': begin(digit); break;
                default: look(digit); break;
            }
        }

        private int undo() {
            state(!saved.isEmpty());
            s = saved.remove(saved.size() - 1);
            return saved.size();
        }

        private int notice(int notice, int field) {
            index(field, 5);
            argument(notice >= 0);
            return s.kept.containsKey(notice) ? s.kept.get(notice).get(field) : -1;
        }

        private int clerk(int clerk, int what) {
            index(clerk, 3);
            argument(what >= 0 && what <= 2);
            int place = new ArrayList<>(s.line).indexOf(clerk);
            if (what == 2) {
                return s.done[clerk];
            }
            if (what == 1) {
                return place >= 1 ? place - 1 : -1;
            }
            return place < 0 ? 0 : place == 0 ? 1 : 2;
        }

        private int readerOf(int reader, int what) {
            index(reader, 4);
            argument(what >= 0 && what <= 7);
            ModelReader r = s.readers[reader];
            boolean reads = r.values != null;
            int[] answers = {reads ? 1 : givenUp(r) ? 2 : 0, r.noted, reads ? r.values.size() : -1, r.row, r.failed,
                r.well, latestSame(r.held), r.heeds ? 1 : 0};
            return answers[what];
        }

        private int latestSame(List<Integer> values) {
            for (int notice : s.kept.descendingKeySet()) {
                if (s.kept.get(notice).equals(values)) {
                    return notice;
                }
            }
            return -1;
        }

        private int has(int reader, int field) {
            index(reader, 4);
            index(field, 5);
            List<Integer> held = s.readers[reader].held;
            return held == null ? -1 : held.get(field);
        }

        private int count(int what) {
            argument(what >= 0 && what <= 8);
            int reading = 0;
            int failed = 0;
            int well = 0;
            for (ModelReader r : s.readers) {
                reading += r.values != null ? 1 : 0;
                failed += r.failed;
                well += r.well;
            }
            int chalks = s.line.isEmpty() ? -1 : s.line.peekFirst();
            int waiting = s.line.isEmpty() ? 0 : s.line.size() - 1;
            int[] answers = {s.number, chalks, waiting, reading, failed, well, s.halves, s.setting, saved.size()};
            return answers[what];
        }

        /** Does what the document says: tries it out, on a copy. */
        private int ifRead(int reader) {
            index(reader, 4);
            if (givenUp(s.readers[reader])) {
                return -1;
            }
            ModelState before = s;
            s = before.copy();
            boolean well = tryToTheEnd(reader);
            s = before;
            return well ? 1 : 0;
        }

        private int wouldBeHalf(int reader) {
            index(reader, 4);
            if (givenUp(s.readers[reader])) {
                return 0;
            }
            ModelState before = s;
            s = before.copy();
            tryToTheEnd(reader);
            int more = s.halves - before.halves;
            s = before;
            return more;
        }

        private boolean tryToTheEnd(int reader) {
            if (s.readers[reader].values == null && begin(reader) == 0) {
                return false;
            }
            int last = 0;
            while (s.readers[reader].values != null) {
                last = look(reader);
            }
            return last == 101;
        }

        private double share() {
            double tries = count(4) + count(5);
            return tries == 0 ? 1.0 : count(5) / tries;
        }

        long digest() {
            List<Long> list = new ArrayList<>();
            for (int what = 0; what < 9; what++) {
                list.add((long) count(what));
            }
            Arrays.asList(s.fields).forEach(value -> list.add((long) value));
            for (int clerk = 0; clerk < 3; clerk++) {
                for (int what = 0; what < 3; what++) {
                    list.add((long) clerk(clerk, what));
                }
            }
            for (int reader = 0; reader < 4; reader++) {
                for (int what = 0; what < 8; what++) {
                    list.add((long) readerOf(reader, what));
                }
                for (int field = 0; field < 5; field++) {
                    list.add((long) has(reader, field));
                }
                list.add((long) ifRead(reader));
                list.add((long) wouldBeHalf(reader));
            }
            s.kept.values().forEach(notice -> notice.forEach(value -> list.add((long) value)));
            list.add((long) s.line.size());
            list.add(Double.doubleToLongBits(share()));
            list.add((long) buffer.length());
            buffer.chars().forEach(code -> list.add((long) code));
            long hash = 3359;
            for (long value : list) {
                hash = 31 * hash + value;
            }
            return hash;
        }
    }
}

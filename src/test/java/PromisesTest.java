/** At least one run of calls for each promise of the document, by the promise's number. */
public final class PromisesTest {
    private static int wrong = 0;

    private interface Call {
        int answer();
    }

    public static void main(String[] args) {
        promise1ANewObject();
        promise2Come();
        promise3Chalk();
        promise4Done();
        promise5Reader();
        promise6Begin();
        promise7Look();
        promise8Set();
        promise9Append();
        promise10ClearBuffer();
        promise11FirstError();
        promise12Play();
        promise12PlayUpToAnImpossibleDeed();
        promise13Undo();
        promise13UndoRestoresAll();
        promise14Field();
        promise15Notice();
        promise16Clerk();
        promise17ReaderOf();
        promise17GivenUp();
        promise18Has();
        promise19Count();
        promise20IfRead();
        promise21WouldBeHalf();
        promise22Busy();
        promise23WellShare();
        promise24Digest();
        throwingChangesNothing();
        System.out.println(wrong == 0 ? "all promises are kept" : wrong + " answers are not as due");
        if (wrong != 0) {
            System.exit(1);
        }
    }

    // ---- helpers

    private static void due(String call, double got, double want) {
        if (got != want) {
            wrong++;
            System.out.println(call + " answered " + got + ", due is " + want);
        }
    }

    private static void dueBits(String call, long got, long want) {
        if (got != want) {
            wrong++;
            System.out.println(call + " answered " + got + ", due is " + want);
        }
    }

    private static void throwsIndex(String call, Call made) {
        dueThrow(call, made, IndexOutOfBoundsException.class);
    }

    private static void throwsArgument(String call, Call made) {
        dueThrow(call, made, IllegalArgumentException.class);
    }

    private static void throwsState(String call, Call made) {
        dueThrow(call, made, IllegalStateException.class);
    }

    private static void dueThrow(String call, Call made, Class<?> want) {
        String got;
        try {
            got = String.valueOf(made.answer());
        } catch (RuntimeException e) {
            got = e.getClass().getName();
        }
        if (!got.equals(want.getName())) {
            wrong++;
            System.out.println(call + " answered " + got + ", due is " + want.getName());
        }
    }

    private static void append(Watched x, String text) {
        for (int i = 0; i < text.length(); i++) {
            x.append(text.charAt(i));
        }
    }

    private static int play(Watched x, String text) {
        append(x, text);
        return x.play();
    }

    private static int firstError(String text) {
        Watched x = new Watched();
        append(x, text);
        return x.firstError();
    }

    private static void looks(Watched x, int reader, int times) {
        for (int i = 0; i < times; i++) {
            x.look(reader);
        }
    }

    /** Makes one more notice, with this value in field 0. */
    private static void post(Watched x, int value) {
        x.come(0);
        x.chalk(0, value);
        x.done(0);
    }

    private static void dueNotice(Watched x, int notice, int... values) {
        for (int field = 0; field < 5; field++) {
            due("notice(" + notice + ", " + field + ")", x.notice(notice, field), values[field]);
        }
    }

    private static void dueReader(Watched x, int reader, int... values) {
        for (int what = 0; what < 8; what++) {
            due("readerOf(" + reader + ", " + what + ")", x.readerOf(reader, what), values[what]);
        }
    }

    private static void dueCounts(Watched x, int... values) {
        for (int what = 0; what < 9; what++) {
            due("count(" + what + ")", x.count(what), values[what]);
        }
    }

    // ---- the promises

    private static void promise1ANewObject() {
        Watched x = new Watched();
        dueCounts(x, 0, -1, 0, 0, 0, 0, 0, 5, 0);
        dueNotice(x, 0, 0, 0, 0, 0, 0);
        due("1: notice(1, 0)", x.notice(1, 0), -1);
        for (int reader = 0; reader < 4; reader++) {
            dueReader(x, reader, 0, -1, -1, 0, 0, 0, -1, 1);
            due("1: has", x.has(reader, 4), -1);
        }
        for (int clerk = 0; clerk < 3; clerk++) {
            due("1: clerk", x.clerk(clerk, 0), 0);
        }
        due("1: firstError", x.firstError(), 0);
        due("1: clearBuffer", x.clearBuffer(), 0);
    }

    private static void promise2Come() {
        Watched x = new Watched();
        throwsIndex("2: come(-1)", () -> x.come(-1));
        throwsIndex("2: come(3)", () -> x.come(3));
        throwsIndex("2: come(MIN)", () -> x.come(Integer.MIN_VALUE));
        throwsIndex("2: come(MAX)", () -> x.come(Integer.MAX_VALUE));
        due("2: first come", x.come(1), 0);
        due("2: number", x.count(0), 1);
        throwsState("2: come while chalking", () -> x.come(1));
        due("2: second come", x.come(0), 1);
        due("2: number stays", x.count(0), 1);
        throwsState("2: come while waiting", () -> x.come(0));
        due("2: third come", x.come(2), 2);
        due("2: waiting", x.count(2), 2);
        due("2: saved", x.count(8), 3);
    }

    private static void promise3Chalk() {
        Watched x = new Watched();
        throwsState("3: chalk without a clerk", () -> x.chalk(0, 0));
        throwsIndex("3: all three", () -> x.chalk(5, 100));
        throwsArgument("3: value before state", () -> x.chalk(4, 100));
        throwsArgument("3: value -1", () -> x.chalk(4, -1));
        throwsIndex("3: field -1", () -> x.chalk(-1, 0));
        x.come(2);
        due("3: chalk(4, 99)", x.chalk(4, 99), 0);
        due("3: chalk(4, 0)", x.chalk(4, 0), 99);
        due("3: chalk(0, 7)", x.chalk(0, 7), 0);
        due("3: field(0)", x.field(0), 7);
        due("3: number stays", x.count(0), 1);
        throwsArgument("3: value 100", () -> x.chalk(0, 100));
        throwsArgument("3: value MIN", () -> x.chalk(0, Integer.MIN_VALUE));
        throwsIndex("3: field MAX", () -> x.chalk(Integer.MAX_VALUE, 1));
        due("3: notice is not touched", x.notice(0, 0), 0);
    }

    private static void promise4Done() {
        Watched x = new Watched();
        throwsIndex("4: done(3)", () -> x.done(3));
        throwsIndex("4: done(-1)", () -> x.done(-1));
        throwsState("4: done while away", () -> x.done(0));
        x.come(0);
        x.come(2);
        x.come(1);
        throwsState("4: done while waiting", () -> x.done(2));
        x.chalk(1, 5);
        due("4: done(0)", x.done(0), 1);
        due("4: next number", x.count(0), 3);
        due("4: next chalks", x.count(1), 2);
        x.chalk(1, 6);
        due("4: done(2)", x.done(2), 2);
        due("4: last chalks", x.count(1), 1);
        due("4: done(1)", x.done(1), 3);
        due("4: even", x.count(0), 6);
        due("4: nobody chalks", x.count(1), -1);
        dueNotice(x, 1, 0, 5, 0, 0, 0);
        dueNotice(x, 2, 0, 6, 0, 0, 0);
        dueNotice(x, 3, 0, 6, 0, 0, 0);
        due("4: done often", x.clerk(2, 2), 1);
    }

    private static void promise5Reader() {
        Watched x = new Watched();
        throwsIndex("5: reader(4)", () -> x.reader(4, true));
        throwsIndex("5: reader(-1)", () -> x.reader(-1, false));
        x.begin(3);
        looks(x, 3, 6);
        due("5: has a notice", x.has(3, 0), 0);
        x.come(0);
        x.begin(3);
        dueReader(x, 3, 0, -1, -1, 1, 1, 1, 0, 1);
        due("5: heeded", x.reader(3, false), 1);
        dueReader(x, 3, 0, -1, -1, 0, 1, 1, -1, 0);
        due("5: no notice", x.has(3, 0), -1);
        x.begin(3);
        due("5: reads", x.readerOf(3, 0), 1);
        due("5: did not heed", x.reader(3, true), 0);
        dueReader(x, 3, 0, -1, -1, 0, 1, 1, -1, 1);
        due("5: saved", x.count(8), 6);
    }

    private static void promise6Begin() {
        Watched x = new Watched();
        throwsIndex("6: begin(4)", () -> x.begin(4));
        throwsIndex("6: begin(-1)", () -> x.begin(-1));
        due("6: even", x.begin(0), 1);
        due("6: saved", x.count(8), 1);
        throwsState("6: reads already", () -> x.begin(0));
        x.come(0);
        for (int i = 1; i <= 5; i++) {
            due("6: odd", x.begin(1), 0);
            due("6: failed in a row", x.readerOf(1, 3), i);
        }
        throwsState("6: given up", () -> x.begin(1));
        x.reader(2, false);
        due("6: does not heed", x.begin(2), 1);
        due("6: odd number is noted", x.readerOf(2, 1), 1);
        x.done(0);
        throwsState("6: given up though even", () -> x.begin(1));
    }

    private static void promise7Look() {
        Watched x = new Watched();
        throwsIndex("7: look(4)", () -> x.look(4));
        throwsIndex("7: look(-1)", () -> x.look(-1));
        throwsState("7: away", () -> x.look(0));
        play(x, "c0w011w122w233w344w455d0");
        x.begin(0);
        for (int i = 1; i <= 5; i++) {
            due("7: value", x.look(0), 11 * i);
            due("7: taken", x.readerOf(0, 2), i);
        }
        due("7: did well", x.look(0), 101);
        throwsState("7: away again", () -> x.look(0));
        x.begin(0);
        looks(x, 0, 5);
        x.come(1);
        due("7: failed", x.look(0), 100);
        due("7: notice had stays", x.has(0, 2), 33);
        dueReader(x, 0, 0, -1, -1, 1, 1, 1, 1, 1);
        x.done(1);
        x.begin(0);
        looks(x, 0, 5);
        post(x, 99);
        due("7: failed though even", x.look(0), 100);
        x.begin(0);
        due("7: new value", x.look(0), 99);
        looks(x, 0, 4);
        due("7: well again", x.look(0), 101);
        dueReader(x, 0, 0, -1, -1, 0, 2, 2, 3, 1);
        x.reader(1, false);
        x.begin(1);
        looks(x, 1, 2);
        post(x, 98);
        looks(x, 1, 3);
        due("7: does not heed", x.look(1), 101);
        due("7: took whole", x.readerOf(1, 6), 3);
    }

    private static void promise8Set() {
        Watched x = new Watched();
        throwsArgument("8: set(0)", () -> x.set(0));
        throwsArgument("8: set(21)", () -> x.set(21));
        throwsArgument("8: set(MIN)", () -> x.set(Integer.MIN_VALUE));
        due("8: set(20)", x.set(20), 5);
        due("8: set(3)", x.set(3), 20);
        x.come(0);
        x.begin(0);
        x.begin(0);
        due("8: not given up", x.readerOf(0, 0), 0);
        due("8: set(1)", x.set(1), 3);
        due("8: given up by it", x.readerOf(0, 0), 2);
        throwsState("8: begin", () -> x.begin(0));
        due("8: set(3) again", x.set(3), 1);
        due("8: not any more", x.begin(0), 0);
        due("8: given up", x.readerOf(0, 0), 2);
        due("8: count(7)", x.count(7), 3);
    }

    private static void promise9Append() {
        Watched x = new Watched();
        throwsArgument("9: append(32)", () -> x.append(32));
        throwsArgument("9: append(127)", () -> x.append(127));
        throwsArgument("9: append(-1)", () -> x.append(-1));
        due("9: append(33)", x.append(33), 1);
        due("9: append(126)", x.append(126), 2);
        for (int i = 3; i <= 60; i++) {
            due("9: append", x.append('c'), i);
        }
        throwsState("9: full", () -> x.append('c'));
        throwsArgument("9: full, and no code", () -> x.append(32));
        due("9: not undoable", x.count(8), 0);
        due("9: length", x.clearBuffer(), 60);
    }

    private static void promise10ClearBuffer() {
        Watched x = new Watched();
        append(x, "zz");
        due("10: clearBuffer", x.clearBuffer(), 2);
        due("10: empty", x.clearBuffer(), 0);
        append(x, "c");
        due("10: the errors are gone too", x.firstError(), 1);
        due("10: clear half a part", x.clearBuffer(), 1);
        append(x, "0");
        due("10: a part begins anew", x.firstError(), 0);
        due("10: not undoable", x.count(8), 0);
    }

    private static void promise11FirstError() {
        String[] right = {"", "c", "c0", "c2", "d", "d0", "d2", "w", "w0", "w4", "w09", "w499", "b", "b0",
            "b3", "l", "l0", "l3", "c0d1w000b3l2", "w123w", "c0c0c0c0"};
        for (String text : right) {
            due("11: " + text, firstError(text), text.length());
        }
        String[] last = {"x", "0", "C", "e", "a", "~", "c3", "c/", "cc", "d3", "d:", "w5", "w/", "wc", "w0:",
            "w0/", "w00:", "w00c", "w000w9", "b4", "b/", "l4", "l:", "c0,", "c00", "l3l4", "w0000"};
        for (String text : last) {
            due("11: " + text, firstError(text), text.length() - 1);
        }
        due("11: the first one", firstError("c0c9zzc0"), 3);
    }

    private static void promise12Play() {
        Watched x = new Watched();
        throwsArgument("12: empty", () -> x.play());
        String[] incomplete = {"c", "w", "w0", "w00", "b", "l", "d", "c0d", "c0x", "c0c3", "x"};
        for (String text : incomplete) {
            append(x, text);
            throwsArgument("12: " + text, () -> x.play());
            due("12: the buffer stays", x.clearBuffer(), text.length());
        }
        due("12: nothing saved", x.count(8), 0);
        due("12: deeds", play(x, "c1w003w499d1b3l3"), 6);
        due("12: buffer", x.clearBuffer(), 0);
        due("12: one saved state", x.count(8), 1);
        due("12: number", x.count(0), 2);
        dueNotice(x, 1, 3, 0, 0, 0, 99);
        due("12: reader took", x.readerOf(3, 2), 1);
        due("12: undo", x.undo(), 0);
        dueCounts(x, 0, -1, 0, 0, 0, 0, 0, 5, 0);
        due("12: many", play(x, "c0d0c0d0c0d0c0d0c0d0c0d0c0d0c0d0c0d0c0d0c0d0c0d0c0d0c0d0c0d0"), 30);
    }

    private static void promise12PlayUpToAnImpossibleDeed() {
        Watched x = new Watched();
        due("12: w alone", play(x, "w011c0"), 0);
        due("12: undoable though nothing done", x.count(8), 1);
        due("12: buffer", x.clearBuffer(), 0);
        due("12: c twice", play(x, "c0c1c0c2"), 2);
        due("12: d of one who waits", play(x, "d1"), 0);
        due("12: d of one who is away", play(x, "d2"), 0);
        due("12: l of one who is away", play(x, "l0b0"), 0);
        due("12: b until given up", play(x, "b0b0b0b0b0b0l0"), 5);
        due("12: b of one who reads", play(x, "d0d1b1b1l1"), 3);
        due("12: reads", x.readerOf(1, 2), 0);
        due("12: look at the number is a deed", play(x, "l1l1l1l1l1l1l1"), 6);
    }

    private static void promise13Undo() {
        Watched x = new Watched();
        throwsState("13: none", () -> x.undo());
        for (int i = 1; i <= 8; i++) {
            x.set(i);
        }
        due("13: saved", x.count(8), 6);
        for (int i = 1; i <= 6; i++) {
            due("13: undo", x.undo(), 6 - i);
            due("13: setting", x.count(7), 8 - i);
        }
        throwsState("13: none left", () -> x.undo());
        due("13: the oldest are dropped", x.count(7), 2);
        x.set(2);
        due("13: saved though nothing changed", x.count(8), 1);
        append(x, "c0");
        due("13: undo", x.undo(), 0);
        due("13: the buffer stays", x.clearBuffer(), 2);
    }

    private static void promise13UndoRestoresAll() {
        for (int steps = 0; steps <= 6; steps++) {
            Watched x = afterSteps(6);
            for (int left = 5; left >= steps; left--) {
                due("13: undo", x.undo(), left);
            }
            dueBits("13: state " + steps, hashWithoutSaved(x), hashWithoutSaved(afterSteps(steps)));
        }
        Watched x = afterSteps(6);
        for (int i = 0; i < 6; i++) {
            x.undo();
        }
        due("13: reader goes on", x.look(2), 0);
        due("13: with the value of the board", x.look(2), 77);
        due("13: to the end", x.look(2), 101);
        due("13: with what was taken before", x.has(2, 0), 33);
    }

    /** A state with something of everything, and so many steps from there. */
    private static Watched afterSteps(int steps) {
        Watched x = new Watched();
        for (int i = 1; i <= 14; i++) {
            post(x, i);
        }
        x.reader(1, false);
        play(x, "b0l0l0l0l0l0l0b1l1c1w033w466l1l1l1l1l1");
        due("13: a half before", x.count(6), 1);
        play(x, "c0b3w477b0");
        x.reader(2, false);
        x.begin(2);
        looks(x, 2, 3);
        for (int i = 0; i < steps; i++) {
            switch (i) {
                case 0: x.chalk(4, 44); break;
                case 1: x.look(2); break;
                case 2: x.done(1); break;
                case 3: play(x, "l2l2d0b0l0c1w055l0l0l0l0l0b1l1w056l1l1l1l1l1b2l2l2d1"); break;
                case 4: x.reader(2, true); x.undo(); play(x, "c0w099d0c0w044d0b0l0l0l0l0l0l0b3b2l2l2l2l2l2l2b2"); break;
                default: x.set(20); break;
            }
        }
        return x;
    }

    /** The saved states are not part of what undo restores, but are in the digest: so all other looks. */
    private static long hashWithoutSaved(Watched x) {
        long hash = 0;
        for (int what = 0; what < 8; what++) {
            hash = 31 * hash + x.count(what);
        }
        for (int clerk = 0; clerk < 3; clerk++) {
            for (int what = 0; what < 3; what++) {
                hash = 31 * hash + x.clerk(clerk, what);
            }
        }
        for (int reader = 0; reader < 4; reader++) {
            for (int what = 0; what < 8; what++) {
                hash = 31 * hash + x.readerOf(reader, what);
            }
            hash = 31 * hash + x.ifRead(reader);
            hash = 31 * hash + x.wouldBeHalf(reader);
        }
        for (int field = 0; field < 5; field++) {
            hash = 31 * hash + x.field(field);
            for (int i = 0; i < 4; i++) {
                hash = 31 * hash + x.has(i, field);
            }
            for (int notice = 0; notice < 25; notice++) {
                hash = 31 * hash + x.notice(notice, field);
            }
        }
        return hash;
    }

    private static void promise14Field() {
        Watched x = new Watched();
        throwsIndex("14: field(-1)", () -> x.field(-1));
        throwsIndex("14: field(5)", () -> x.field(5));
        play(x, "c0w011w122w233w344w455");
        for (int field = 0; field < 5; field++) {
            due("14: field", x.field(field), 11 * (field + 1));
        }
        due("14: nothing saved", x.count(8), 1);
    }

    private static void promise15Notice() {
        Watched x = new Watched();
        throwsIndex("15: field 5", () -> x.notice(0, 5));
        throwsIndex("15: field -1", () -> x.notice(0, -1));
        throwsIndex("15: both", () -> x.notice(-1, 5));
        throwsArgument("15: notice -1", () -> x.notice(-1, 4));
        throwsArgument("15: notice MIN", () -> x.notice(Integer.MIN_VALUE, 0));
        for (int i = 1; i <= 15; i++) {
            post(x, i);
        }
        due("15: notice 0 is kept", x.notice(0, 0), 0);
        post(x, 16);
        due("15: notice 0 is dropped", x.notice(0, 0), -1);
        for (int i = 1; i <= 16; i++) {
            due("15: kept", x.notice(i, 0), i);
        }
        x.come(1);
        due("15: not whole yet", x.notice(17, 0), -1);
        due("15: still kept", x.notice(1, 0), 1);
        due("15: far", x.notice(Integer.MAX_VALUE, 0), -1);
        x.done(1);
        due("15: dropped", x.notice(1, 0), -1);
        due("15: same again", x.notice(17, 0), 16);
    }

    private static void promise16Clerk() {
        Watched x = new Watched();
        throwsIndex("16: clerk 3", () -> x.clerk(3, 0));
        throwsIndex("16: both", () -> x.clerk(-1, 3));
        throwsArgument("16: what 3", () -> x.clerk(0, 3));
        throwsArgument("16: what -1", () -> x.clerk(2, -1));
        x.come(2);
        x.come(0);
        x.come(1);
        int[][] want = {{2, 0, 0}, {2, 1, 0}, {1, -1, 0}};
        int[][] then = {{1, -1, 0}, {2, 0, 0}, {0, -1, 1}};
        dueClerks(x, want);
        x.done(2);
        dueClerks(x, then);
        x.come(2);
        due("16: behind", x.clerk(2, 1), 1);
    }

    private static void dueClerks(Watched x, int[][] want) {
        for (int clerk = 0; clerk < 3; clerk++) {
            for (int what = 0; what < 3; what++) {
                due("16: clerk(" + clerk + ", " + what + ")", x.clerk(clerk, what), want[clerk][what]);
            }
        }
    }

    private static void promise17ReaderOf() {
        Watched x = new Watched();
        throwsIndex("17: reader 4", () -> x.readerOf(4, 0));
        throwsIndex("17: both", () -> x.readerOf(-1, 8));
        throwsArgument("17: what 8", () -> x.readerOf(0, 8));
        throwsArgument("17: what -1", () -> x.readerOf(3, -1));
        post(x, 1);
        x.begin(1);
        dueReader(x, 1, 1, 2, 0, 0, 0, 0, -1, 1);
        looks(x, 1, 5);
        dueReader(x, 1, 1, 2, 5, 0, 0, 0, -1, 1);
        x.look(1);
        dueReader(x, 1, 0, -1, -1, 0, 0, 1, 1, 1);
        post(x, 2);
        due("17: older notice", x.readerOf(1, 6), 1);
        post(x, 1);
        due("17: the latest same one", x.readerOf(1, 6), 3);
        for (int i = 4; i <= 18; i++) {
            post(x, 2);
        }
        due("17: kept yet", x.readerOf(1, 6), 3);
        post(x, 2);
        due("17: dropped", x.readerOf(1, 6), -1);
        due("17: has it still", x.has(1, 0), 1);
        post(x, 1);
        due("17: the same comes again", x.readerOf(1, 6), 20);
    }

    private static void promise17GivenUp() {
        Watched x = new Watched();
        x.set(2);
        x.come(0);
        x.begin(0);
        x.done(0);
        x.begin(0);
        x.set(1);
        due("17: one who reads has not given up", x.readerOf(0, 0), 1);
        due("17: noted", x.readerOf(0, 1), 2);
        looks(x, 0, 5);
        due("17: goes on, and does well", x.look(0), 101);
        dueReader(x, 0, 0, -1, -1, 0, 1, 1, 1, 1);
    }

    private static void promise18Has() {
        Watched x = new Watched();
        throwsIndex("18: reader 4", () -> x.has(4, 0));
        throwsIndex("18: reader -1", () -> x.has(-1, 0));
        throwsIndex("18: field 5", () -> x.has(0, 5));
        throwsIndex("18: field -1", () -> x.has(0, -1));
        play(x, "c0w011w122w233w344w455d0b2l2l2l2l2l2");
        due("18: not yet", x.has(2, 0), -1);
        x.look(2);
        for (int field = 0; field < 5; field++) {
            due("18: has", x.has(2, field), 11 * (field + 1));
        }
        x.begin(2);
        due("18: during the next try", x.has(2, 4), 55);
        due("18: another reader", x.has(1, 4), -1);
    }

    private static void promise19Count() {
        Watched x = new Watched();
        throwsArgument("19: count(9)", () -> x.count(9));
        throwsArgument("19: count(-1)", () -> x.count(-1));
        x.reader(1, false);
        x.reader(3, false);
        play(x, "b1b0l1b3c2w099c0c1l1l1l1l1l1b2l0l0l0l0l0l0");
        // Reader 1 took what stood before and after the chalking: all 0, which is the notice 0.
        dueCounts(x, 1, 2, 2, 1, 2, 1, 0, 5, 3);
        play(x, "b1l1w455l1l1l1l1l1");
        dueCounts(x, 1, 2, 2, 1, 2, 2, 1, 5, 4);
        play(x, "d2");
        // What was half a notice when it was taken stays counted, whatever becomes whole.
        due("19: whole by now", x.readerOf(1, 6), 1);
        dueCounts(x, 3, 0, 1, 1, 2, 2, 1, 5, 5);
        x.reader(1, true);
        dueCounts(x, 3, 0, 1, 1, 2, 2, 1, 5, 6);
        Watched y = new Watched();
        for (int reader = 0; reader < 4; reader++) {
            due("19: readers who read", y.count(3), reader);
            y.begin(reader);
        }
        due("19: all read", y.count(3), 4);
    }

    private static void promise20IfRead() {
        Watched x = new Watched();
        throwsIndex("20: ifRead(4)", () -> x.ifRead(4));
        throwsIndex("20: ifRead(-1)", () -> x.ifRead(-1));
        due("20: away, even", x.ifRead(0), 1);
        x.begin(0);
        due("20: reads", x.ifRead(0), 1);
        x.come(0);
        due("20: reads, another number", x.ifRead(0), 0);
        due("20: away, odd", x.ifRead(1), 0);
        x.reader(2, false);
        due("20: away, does not heed", x.ifRead(2), 1);
        x.begin(2);
        x.set(1);
        x.begin(1);
        due("20: given up", x.ifRead(1), -1);
        x.done(0);
        due("20: given up, even", x.ifRead(1), -1);
        due("20: reads, even again", x.ifRead(0), 0);
        due("20: reads, does not heed", x.ifRead(2), 1);
        due("20: nothing is changed", x.readerOf(0, 2), 0);
    }

    private static void promise21WouldBeHalf() {
        Watched x = new Watched();
        throwsIndex("21: wouldBeHalf(4)", () -> x.wouldBeHalf(4));
        throwsIndex("21: wouldBeHalf(-1)", () -> x.wouldBeHalf(-1));
        x.reader(0, false);
        x.begin(1);
        due("21: away, even", x.wouldBeHalf(0), 0);
        due("21: reads, even", x.wouldBeHalf(1), 0);
        x.come(0);
        due("21: nothing chalked", x.wouldBeHalf(0), 0);
        x.chalk(0, 9);
        due("21: would take half", x.wouldBeHalf(0), 1);
        due("21: would fail at the end", x.wouldBeHalf(1), 0);
        due("21: would fail at the start", x.wouldBeHalf(2), 0);
        x.begin(0);
        x.chalk(0, 0);
        due("21: reads, and would take all 0", x.wouldBeHalf(0), 0);
        x.chalk(0, 9);
        looks(x, 0, 1);
        x.chalk(0, 8);
        x.done(0);
        due("21: even, but took 9", x.wouldBeHalf(0), 1);
        due("21: another one", x.wouldBeHalf(2), 0);
        post(x, 9);
        due("21: whole by now", x.wouldBeHalf(0), 0);
        x.look(0);
        x.come(0);
        x.chalk(2, 6);
        looks(x, 0, 3);
        x.chalk(2, 0);
        due("21: at the last look", x.wouldBeHalf(0), 1);
        due("21: the last look", x.look(0), 101);
        due("21: was half", x.count(6), 1);
        due("21: what was taken before is gone", x.wouldBeHalf(0), 0);
        x.begin(0);
        looks(x, 0, 2);
        due("21: also in the next try", x.wouldBeHalf(0), 0);
        x.done(0);
        x.set(1);
        x.come(0);
        x.chalk(1, 1);
        x.begin(2);
        due("21: given up", x.wouldBeHalf(2), 0);
    }

    private static void promise22Busy() {
        Watched x = new Watched();
        due("22: even", x.busy(), 0);
        x.come(1);
        due("22: one", x.busy(), 1);
        x.come(0);
        x.come(2);
        due("22: three", x.busy(), 3);
        x.done(1);
        due("22: two", x.busy(), 2);
        x.done(0);
        x.done(2);
        due("22: none", x.busy(), 0);
    }

    private static void promise23WellShare() {
        Watched x = new Watched();
        due("23: without any", x.wellShare(), 1.0);
        x.come(0);
        x.begin(0);
        due("23: one failed", x.wellShare(), 0.0);
        x.begin(1);
        x.done(0);
        play(x, "b0l0l0l0l0l0l0");
        due("23: one of three", x.wellShare(), 1.0 / 3.0);
        x.reader(0, true);
        due("23: what is counted stays", x.wellShare(), 1.0 / 3.0);
        play(x, "b3l3l3l3l3l3l3");
        due("23: two of four", x.wellShare(), 0.5);
    }

    private static void promise24Digest() {
        dueDigest(new Watched(), "");
        dueDigest(withTries(), "");
        Watched x = withTries();
        append(x, "b2!~");
        dueDigest(x, "b2!~");
        x.clearBuffer();
        dueDigest(x, "");
        for (int rounds = 1; rounds <= 7; rounds++) {
            dueDigest(withRounds(rounds), "");
        }
        Watched y = withRounds(7);
        y.done(1);
        play(y, "b0l0l0l0l0l0l0b3l3l3l3l3l3l3");
        dueDigest(y, "");
    }

    private static Watched withTries() {
        Watched x = new Watched();
        play(x, "c0w011w199d0b0l0l0l0l0l0l0c1b1b1");
        return x;
    }

    private static Watched withRounds(int rounds) {
        Watched x = withTries();
        x.reader(2, false);
        for (int i = 0; i < rounds; i++) {
            play(x, "b2l2l2w107l2l2l2l2d1c1d1c1d1c1");
        }
        return x;
    }

    private static void dueDigest(Watched x, String buffer) {
        long hash = 3359;
        for (int what = 0; what < 9; what++) {
            hash = 31 * hash + x.count(what);
        }
        for (int field = 0; field < 5; field++) {
            hash = 31 * hash + x.field(field);
        }
        for (int clerk = 0; clerk < 3; clerk++) {
            for (int what = 0; what < 3; what++) {
                hash = 31 * hash + x.clerk(clerk, what);
            }
        }
        for (int reader = 0; reader < 4; reader++) {
            for (int what = 0; what < 8; what++) {
                hash = 31 * hash + x.readerOf(reader, what);
            }
            for (int field = 0; field < 5; field++) {
                hash = 31 * hash + x.has(reader, field);
            }
            hash = 31 * hash + x.ifRead(reader);
            hash = 31 * hash + x.wouldBeHalf(reader);
        }
        int latest = x.count(0) / 2;
        for (int notice = Math.max(0, latest - 15); notice <= latest; notice++) {
            for (int field = 0; field < 5; field++) {
                hash = 31 * hash + x.notice(notice, field);
            }
        }
        hash = 31 * hash + x.busy();
        hash = 31 * hash + Double.doubleToLongBits(x.wellShare());
        hash = 31 * hash + buffer.length();
        for (int i = 0; i < buffer.length(); i++) {
            hash = 31 * hash + buffer.charAt(i);
        }
        dueBits("24: digest", x.digest(), hash);
    }

    private static void throwingChangesNothing() {
        Watched x = new Watched();
        play(x, "c0c1b0");
        append(x, "c0w");
        long before = x.digest();
        throwsState("come", () -> x.come(1));
        throwsIndex("come", () -> x.come(3));
        throwsArgument("chalk", () -> x.chalk(0, 100));
        throwsState("done", () -> x.done(1));
        throwsIndex("reader", () -> x.reader(4, false));
        throwsState("look", () -> x.look(0));
        throwsArgument("set", () -> x.set(21));
        throwsArgument("append", () -> x.append(127));
        throwsArgument("play", () -> x.play());
        dueBits("digest after calls that threw", x.digest(), before);
    }
}

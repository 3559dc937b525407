/**
 * A notice board whose number is odd while a clerk chalks, and readers who compare that number or
 * do not. The promises are in the project's DOC.md.
 */
public final class OddNotice {
    public static final int NONE = -1;

    private static final int FIELDS = 5;
    private static final int VALUES = 100;
    private static final int CLERKS = 3;
    private static final int READERS = 4;
    private static final int KEPT_NOTICES = 16;
    private static final int SAVED_STATES = 6;
    private static final int BUFFER_ROOM = 60;
    private static final int FIRST_CODE = 33;
    private static final int LAST_CODE = 126;
    private static final int FIRST_SETTING = 5;
    private static final int LARGEST_SETTING = 20;
    private static final int CLERK_LOOKS = 3;
    private static final int READER_LOOKS = 8;
    private static final int COUNTS = 9;
    private static final int TRY_FAILED = 100;
    private static final int TRY_DID_WELL = 101;
    private static final long FIRST_HASH = 3359L;

    private final State now = new State();
    private final State[] saved = new State[SAVED_STATES];
    private int oldestSaved;
    private int savedCount;
    private final Text text = new Text();
    private final int[] wouldTake = new int[FIELDS];

    /** Makes every row that the calls use, so that no later call makes one. */
    public OddNotice() {
        for (int i = 0; i < SAVED_STATES; i++) {
            saved[i] = new State();
        }
    }

    // ---- clerks

    public int come(int clerk) throws IndexOutOfBoundsException, IllegalStateException {
        if (!isBelow(clerk, CLERKS)) {
            throw new IndexOutOfBoundsException("no such clerk");
        }
        if (!now.board.isAway(clerk)) {
            throw new IllegalStateException("the clerk chalks or waits");
        }
        saveState();
        return now.board.enter(clerk);
    }

    public int chalk(int field, int value)
            throws IndexOutOfBoundsException, IllegalArgumentException, IllegalStateException {
        if (!isBelow(field, FIELDS)) {
            throw new IndexOutOfBoundsException("no such field");
        }
        if (!isBelow(value, VALUES)) {
            throw new IllegalArgumentException("value is out of range");
        }
        if (!now.board.isOdd()) {
            throw new IllegalStateException("nobody chalks");
        }
        saveState();
        return now.board.write(field, value);
    }

    public int done(int clerk) throws IndexOutOfBoundsException, IllegalStateException {
        if (!isBelow(clerk, CLERKS)) {
            throw new IndexOutOfBoundsException("no such clerk");
        }
        if (!now.board.isChalking(clerk)) {
            throw new IllegalStateException("the clerk does not chalk");
        }
        saveState();
        return now.board.leave(clerk);
    }

    // ---- readers

    public int reader(int reader, boolean heeds) throws IndexOutOfBoundsException {
        if (!isBelow(reader, READERS)) {
            throw new IndexOutOfBoundsException("no such reader");
        }
        saveState();
        int heeded = now.readers[reader].heeds ? 1 : 0;
        now.readers[reader].startAnew(heeds);
        return heeded;
    }

    public int begin(int reader) throws IndexOutOfBoundsException, IllegalStateException {
        if (!isBelow(reader, READERS)) {
            throw new IndexOutOfBoundsException("no such reader");
        }
        if (!now.mayBegin(reader)) {
            throw new IllegalStateException("the reader reads, or has given up");
        }
        saveState();
        return now.readers[reader].open(now.board) ? 1 : 0;
    }

    public int look(int reader) throws IndexOutOfBoundsException, IllegalStateException {
        if (!isBelow(reader, READERS)) {
            throw new IndexOutOfBoundsException("no such reader");
        }
        if (!now.readers[reader].reads) {
            throw new IllegalStateException("the reader does not read");
        }
        saveState();
        return now.glance(reader);
    }

    public int set(int value) throws IllegalArgumentException {
        if (value < 1 || value > LARGEST_SETTING) {
            throw new IllegalArgumentException("value is out of range");
        }
        saveState();
        int previous = now.setting;
        now.setting = value;
        return previous;
    }

    // ---- texts

    public int append(int code) throws IllegalArgumentException, IllegalStateException {
        if (code < FIRST_CODE || code > LAST_CODE) {
            throw new IllegalArgumentException("code is not 33 to 126");
        }
        if (text.length >= BUFFER_ROOM) {
            throw new IllegalStateException("the buffer is full");
        }
        text.add(code);
        return text.length;
    }

    public int clearBuffer() {
        int length = text.length;
        text.empty();
        return length;
    }

    public int firstError() {
        return text.rightLength;
    }

    public int play() throws IllegalArgumentException {
        if (!text.isComplete()) {
            throw new IllegalArgumentException("the buffer is not complete deeds");
        }
        saveState();
        int deeds = doDeeds();
        text.empty();
        return deeds;
    }

    public int undo() throws IllegalStateException {
        if (savedCount <= 0) {
            throw new IllegalStateException("no saved state");
        }
        savedCount--;
        now.copyFrom(saved[savedPlace(savedCount)]);
        return savedCount;
    }

    // ---- looks; nothing is changed

    public int field(int field) throws IndexOutOfBoundsException {
        if (!isBelow(field, FIELDS)) {
            throw new IndexOutOfBoundsException("no such field");
        }
        return now.board.fields[field];
    }

    public int notice(int notice, int field)
            throws IndexOutOfBoundsException, IllegalArgumentException {
        if (!isBelow(field, FIELDS)) {
            throw new IndexOutOfBoundsException("no such field");
        }
        if (notice < 0) {
            throw new IllegalArgumentException("notice is below 0");
        }
        return now.board.keptValue(notice, field);
    }

    public int clerk(int clerk, int what)
            throws IndexOutOfBoundsException, IllegalArgumentException {
        if (!isBelow(clerk, CLERKS)) {
            throw new IndexOutOfBoundsException("no such clerk");
        }
        switch (what) {
            case 0: return now.board.doing(clerk);
            case 1: return now.board.waitingAhead(clerk);
            case 2: return now.board.timesDone[clerk];
            default: throw new IllegalArgumentException("what is not 0 to 2");
        }
    }

    public int readerOf(int reader, int what)
            throws IndexOutOfBoundsException, IllegalArgumentException {
        if (!isBelow(reader, READERS)) {
            throw new IndexOutOfBoundsException("no such reader");
        }
        Reader one = now.readers[reader];
        switch (what) {
            case 0: return one.doing(now.setting);
            case 1: return one.reads ? one.noted : NONE;
            case 2: return one.reads ? one.taken : NONE;
            case 3: return one.failedInRow;
            case 4: return one.failed;
            case 5: return one.well;
            case 6: return one.holds ? now.board.latestSame(one.held) : NONE;
            case 7: return one.heeds ? 1 : 0;
            default: throw new IllegalArgumentException("what is not 0 to 7");
        }
    }

    public int has(int reader, int field) throws IndexOutOfBoundsException {
        if (!isBelow(reader, READERS) || !isBelow(field, FIELDS)) {
            throw new IndexOutOfBoundsException("no such reader or field");
        }
        Reader one = now.readers[reader];
        return one.holds ? one.held[field] : NONE;
    }

    public int count(int what) throws IllegalArgumentException {
        switch (what) {
            case 0: return now.board.number;
            case 1: return now.board.whoChalks();
            case 2: return Math.max(0, now.board.inLine() - 1);
            case 3: return now.reading();
            case 4: return now.failedOfAll();
            case 5: return now.wellOfAll();
            case 6: return now.halves;
            case 7: return now.setting;
            case 8: return savedCount;
            default: throw new IllegalArgumentException("what is not 0 to 8");
        }
    }

    // ---- what would be; nothing is changed

    public int ifRead(int reader) throws IndexOutOfBoundsException {
        if (!isBelow(reader, READERS)) {
            throw new IndexOutOfBoundsException("no such reader");
        }
        return now.outcome(reader);
    }

    public int wouldBeHalf(int reader) throws IndexOutOfBoundsException {
        if (!isBelow(reader, READERS)) {
            throw new IndexOutOfBoundsException("no such reader");
        }
        if (now.outcome(reader) != 1) {
            return 0;
        }
        now.readers[reader].fillWouldTake(wouldTake, now.board);
        return now.board.latestSame(wouldTake) == NONE ? 1 : 0;
    }

    public int busy() {
        return now.board.inLine();
    }

    public double wellShare() {
        int well = now.wellOfAll();
        int tries = well + now.failedOfAll();
        return tries <= 0 ? 1.0 : (double) well / (double) tries;
    }

    public long digest() {
        long hash = hashCountsAndFields(FIRST_HASH);
        hash = hashClerks(hash);
        for (int reader = 0; reader < READERS; reader++) {
            hash = hashReader(hash, reader);
        }
        hash = hashNotices(hash);
        hash = mix(hash, busy());
        hash = mix(hash, bitsOfShare(wellShare()));
        return hashBuffer(hash);
    }

    private static boolean isBelow(int number, int bound) {
        return number >= 0 && number < bound;
    }

    private int savedPlace(int behindOldest) {
        return (oldestSaved + behindOldest) % SAVED_STATES;
    }

    private void saveState() {
        // With all places taken, the place behind the latest is the oldest one's: it is dropped.
        saved[savedPlace(savedCount)].copyFrom(now);
        if (savedCount < SAVED_STATES) {
            savedCount++;
        } else {
            oldestSaved = savedPlace(1);
        }
    }

    private int doDeeds() {
        int deeds = 0;
        for (int at = 0; at < text.length; at++) {
            // A part has one letter, its first sign; the digits behind it belong to its deed.
            if (text.isLetter(at)) {
                if (!now.isPossible(text.codeAt(at), text.digitAt(at + 1))) {
                    return deeds;
                }
                doDeed(text.codeAt(at), at + 1);
                deeds++;
            }
        }
        return deeds;
    }

    private void doDeed(int letter, int at) {
        int which = text.digitAt(at);
        switch (letter) {
            case 'c': now.board.enter(which); break;
            case 'd': now.board.leave(which); break;
            case 'w': now.board.write(which, text.valueAt(at + 1)); break;
            case 'b': now.readers[which].open(now.board); break;
            case 'l': now.glance(which); break;
            default: break;
        }
    }

    private static long mix(long hash, long value) {
        return 31L * hash + value;
    }

    private long hashCountsAndFields(long start) {
        long hash = start;
        for (int what = 0; what < COUNTS; what++) {
            hash = mix(hash, count(what));
        }
        for (int field = 0; field < FIELDS; field++) {
            hash = mix(hash, now.board.fields[field]);
        }
        return hash;
    }

    private long hashClerks(long start) {
        long hash = start;
        for (int clerk = 0; clerk < CLERKS; clerk++) {
            for (int what = 0; what < CLERK_LOOKS; what++) {
                hash = mix(hash, clerk(clerk, what));
            }
        }
        return hash;
    }

    private long hashReader(long start, int reader) {
        long hash = start;
        for (int what = 0; what < READER_LOOKS; what++) {
            hash = mix(hash, readerOf(reader, what));
        }
        for (int field = 0; field < FIELDS; field++) {
            hash = mix(hash, has(reader, field));
        }
        hash = mix(hash, ifRead(reader));
        return mix(hash, wouldBeHalf(reader));
    }

    private long hashNotices(long start) {
        long hash = start;
        int oldest = now.board.oldestKept();
        for (int i = 0; i < KEPT_NOTICES && oldest + i <= now.board.latestWhole(); i++) {
            for (int field = 0; field < FIELDS; field++) {
                hash = mix(hash, now.board.keptValue(oldest + i, field));
            }
        }
        return hash;
    }

    private long hashBuffer(long start) {
        long hash = mix(start, text.length);
        for (int at = 0; at < text.length; at++) {
            hash = mix(hash, text.codeAt(at));
        }
        return hash;
    }

    /**
     * The bits of a share from 0 to 1. LANGUAGE.md leaves out Double.doubleToLongBits, so they are
     * found by doubling, which is exact.
     */
    private static long bitsOfShare(double share) {
        if (share <= 0.0) {
            return 0L;
        }
        double scaled = share;
        long exponent = 1023L;
        for (int i = 0; i < 1022 && scaled < 1.0; i++) {
            scaled = scaled * 2.0;
            exponent--;
        }
        return (exponent << 52) + (long) ((scaled - 1.0) * 4503599627370496.0);
    }

    /** The number, the fields, the clerks in their row, and the notices that are kept. */
    private static final class Board {
        int number;
        final int[] fields = new int[FIELDS];
        final int[] timesDone = new int[CLERKS];
        // Of each clerk: NONE if away, 0 if chalking, otherwise how many are to be done before.
        private final int[] place = new int[CLERKS];
        private final int[] kept = new int[KEPT_NOTICES * FIELDS];

        Board() {
            for (int clerk = 0; clerk < CLERKS; clerk++) {
                place[clerk] = NONE;
            }
        }

        boolean isOdd() {
            return (number & 1) == 1;
        }

        boolean isAway(int clerk) {
            return place[clerk] == NONE;
        }

        boolean isChalking(int clerk) {
            return place[clerk] == 0;
        }

        int doing(int clerk) {
            return isAway(clerk) ? 0 : isChalking(clerk) ? 1 : 2;
        }

        int waitingAhead(int clerk) {
            return place[clerk] > 0 ? place[clerk] - 1 : NONE;
        }

        int inLine() {
            int clerks = 0;
            for (int clerk = 0; clerk < CLERKS; clerk++) {
                if (!isAway(clerk)) {
                    clerks++;
                }
            }
            return clerks;
        }

        int whoChalks() {
            for (int clerk = 0; clerk < CLERKS; clerk++) {
                if (isChalking(clerk)) {
                    return clerk;
                }
            }
            return NONE;
        }

        int enter(int clerk) {
            int before = inLine();
            place[clerk] = before;
            if (before == 0) {
                number++;
            }
            return before;
        }

        int write(int field, int value) {
            int previous = fields[field];
            fields[field] = value;
            return previous;
        }

        int leave(int clerk) {
            timesDone[clerk]++;
            stepForward();
            number++;
            keepFields();
            int whole = latestWhole();
            if (inLine() > 0) {
                number++;
            }
            return whole;
        }

        private void stepForward() {
            for (int clerk = 0; clerk < CLERKS; clerk++) {
                if (place[clerk] > 0) {
                    place[clerk]--;
                } else {
                    place[clerk] = NONE;
                }
            }
        }

        private void keepFields() {
            System.arraycopy(fields, 0, kept, keptAt(latestWhole()), FIELDS);
        }

        private static int keptAt(int notice) {
            return Math.floorMod(notice, KEPT_NOTICES) * FIELDS;
        }

        int latestWhole() {
            return number / 2;
        }

        int oldestKept() {
            return Math.max(0, latestWhole() - KEPT_NOTICES + 1);
        }

        int keptValue(int notice, int field) {
            if (notice < oldestKept() || notice > latestWhole()) {
                return NONE;
            }
            return kept[keptAt(notice) + field];
        }

        int latestSame(int[] values) {
            int latest = latestWhole();
            for (int back = 0; back < KEPT_NOTICES && back <= latest; back++) {
                if (isSame(keptAt(latest - back), values)) {
                    return latest - back;
                }
            }
            return NONE;
        }

        private boolean isSame(int at, int[] values) {
            for (int field = 0; field < FIELDS; field++) {
                if (kept[at + field] != values[field]) {
                    return false;
                }
            }
            return true;
        }

        void copyFrom(Board other) {
            number = other.number;
            System.arraycopy(other.fields, 0, fields, 0, FIELDS);
            System.arraycopy(other.timesDone, 0, timesDone, 0, CLERKS);
            System.arraycopy(other.place, 0, place, 0, CLERKS);
            System.arraycopy(other.kept, 0, kept, 0, KEPT_NOTICES * FIELDS);
        }
    }

    /** A reader: the try that goes on, the notice had, and what is counted. */
    private static final class Reader {
        boolean heeds = true;
        boolean reads;
        boolean holds;
        int noted;
        int taken;
        int failedInRow;
        int failed;
        int well;
        final int[] held = new int[FIELDS];
        private final int[] values = new int[FIELDS];

        void startAnew(boolean heedsNow) {
            heeds = heedsNow;
            reads = false;
            holds = false;
            failedInRow = 0;
        }

        boolean hasGivenUp(int setting) {
            return heeds && !reads && failedInRow >= setting;
        }

        int doing(int setting) {
            return reads ? 1 : hasGivenUp(setting) ? 2 : 0;
        }

        boolean open(Board board) {
            if (wouldFail(board)) {
                fail();
                return false;
            }
            reads = true;
            noted = board.number;
            taken = 0;
            return true;
        }

        /** Whether the number makes the try fail: at its end if the reader reads, else at its start. */
        boolean wouldFail(Board board) {
            return heeds && (reads ? noted != board.number : board.isOdd());
        }

        int take(Board board) {
            int value = board.fields[taken];
            values[taken] = value;
            taken++;
            return value;
        }

        void fail() {
            reads = false;
            failedInRow++;
            failed++;
        }

        void doWell() {
            reads = false;
            holds = true;
            System.arraycopy(values, 0, held, 0, FIELDS);
            failedInRow = 0;
            well++;
        }

        void fillWouldTake(int[] row, Board board) {
            for (int field = 0; field < FIELDS; field++) {
                row[field] = reads && field < taken ? values[field] : board.fields[field];
            }
        }

        void copyFrom(Reader other) {
            heeds = other.heeds;
            reads = other.reads;
            holds = other.holds;
            noted = other.noted;
            taken = other.taken;
            failedInRow = other.failedInRow;
            failed = other.failed;
            well = other.well;
            System.arraycopy(other.held, 0, held, 0, FIELDS);
            System.arraycopy(other.values, 0, values, 0, FIELDS);
        }
    }

    /** All that undo brings back. */
    private static final class State {
        final Board board = new Board();
        final Reader[] readers = new Reader[READERS];
        int halves;
        int setting = FIRST_SETTING;

        State() {
            for (int i = 0; i < READERS; i++) {
                readers[i] = new Reader();
            }
        }

        boolean mayBegin(int reader) {
            Reader one = readers[reader];
            return !one.reads && !one.hasGivenUp(setting);
        }

        int glance(int reader) {
            Reader one = readers[reader];
            if (one.taken < FIELDS) {
                return one.take(board);
            }
            if (one.wouldFail(board)) {
                one.fail();
                return TRY_FAILED;
            }
            one.doWell();
            if (board.latestSame(one.held) == NONE) {
                halves++;
            }
            return TRY_DID_WELL;
        }

        int outcome(int reader) {
            Reader one = readers[reader];
            if (one.hasGivenUp(setting)) {
                return NONE;
            }
            return one.wouldFail(board) ? 0 : 1;
        }

        /** Whether the deed with this letter can be done by or to the one with this number. */
        boolean isPossible(int letter, int which) {
            switch (letter) {
                case 'c': return board.isAway(which);
                case 'd': return board.isChalking(which);
                case 'w': return board.isOdd();
                case 'b': return mayBegin(which);
                case 'l': return readers[which].reads;
                default: return false;
            }
        }

        int reading() {
            int sum = 0;
            for (int i = 0; i < READERS; i++) {
                sum += readers[i].reads ? 1 : 0;
            }
            return sum;
        }

        int failedOfAll() {
            int sum = 0;
            for (int i = 0; i < READERS; i++) {
                sum += readers[i].failed;
            }
            return sum;
        }

        int wellOfAll() {
            int sum = 0;
            for (int i = 0; i < READERS; i++) {
                sum += readers[i].well;
            }
            return sum;
        }

        void copyFrom(State other) {
            board.copyFrom(other.board);
            for (int i = 0; i < READERS; i++) {
                readers[i].copyFrom(other.readers[i]);
            }
            halves = other.halves;
            setting = other.setting;
        }
    }

    /** The buffer. It only grows or is emptied, so its syntax is followed as each sign comes. */
    private static final class Text {
        private static final int PART = 0;
        private static final int CLERK = 1;
        private static final int READER = 2;
        private static final int FIELD = 3;
        private static final int TENS = 4;
        private static final int UNITS = 5;
        private static final int NOTHING = 6;

        int length;
        int rightLength;
        private int expected = PART;
        private final int[] codes = new int[BUFFER_ROOM];

        void add(int code) {
            if (length >= BUFFER_ROOM) {
                return;
            }
            codes[length] = code;
            length++;
            expected = expectedBehind(code);
            if (expected != NOTHING) {
                rightLength++;
            }
        }

        void empty() {
            length = 0;
            rightLength = 0;
            expected = PART;
        }

        boolean isComplete() {
            return length > 0 && expected == PART;
        }

        boolean isLetter(int at) {
            return codeAt(at) >= 'a';
        }

        int codeAt(int at) {
            return isBelow(at, length) ? codes[at] : 0;
        }

        /** The digit there, or 0: a place that every row has. */
        int digitAt(int at) {
            int digit = codeAt(at) - '0';
            return isBelow(digit, 10) ? digit : 0;
        }

        int valueAt(int at) {
            return 10 * digitAt(at) + digitAt(at + 1);
        }

        private int expectedBehind(int code) {
            int digit = code - '0';
            switch (expected) {
                case PART: return expectedBehindLetter(code);
                case CLERK: return isBelow(digit, CLERKS) ? PART : NOTHING;
                case READER: return isBelow(digit, READERS) ? PART : NOTHING;
                case FIELD: return isBelow(digit, FIELDS) ? TENS : NOTHING;
                case TENS: return isBelow(digit, 10) ? UNITS : NOTHING;
                case UNITS: return isBelow(digit, 10) ? PART : NOTHING;
                default: return NOTHING;
            }
        }

        private static int expectedBehindLetter(int letter) {
            switch (letter) {
                case 'c':
                case 'd': return CLERK;
                case 'b':
                case 'l': return READER;
                case 'w': return FIELD;
                default: return NOTHING;
            }
        }
    }
}

import java.util.ArrayList;
import java.util.List;

/** The edges that promises 1, 19 and 24 name: a new object, what is counted, and the hash of all. */
public final class WholeEdgesTest {
    public static void main(String[] args) {
        Edges.runAll(WholeEdgesTest.class);
    }

    // ---- 1: a new object

    static void promise1NoneIsMinusOne() {
        Edges.due("NONE", OddNotice.NONE, -1);
    }

    static void promise1TheBoardOfANewObject() {
        Watched x = new Watched();
        Edges.dueField(x, 0, 0, 0, 0, 0);
        Edges.dueNotice(x, 0, 0, 0, 0, 0, 0);
        Edges.dueNotKept(x, 1);
        Edges.dueCounts(x, 0, -1, 0, 0, 0, 0, 0, 5, 0);
        Edges.due("busy", x.busy(), 0);
        Edges.due("wellShare", x.wellShare(), 1.0);
    }

    static void promise1ClerksAndReadersOfANewObject() {
        Watched x = new Watched();
        for (int clerk = 0; clerk < 3; clerk++) {
            Edges.dueClerk(x, clerk, 0, -1, 0);
        }
        for (int reader = 0; reader < 4; reader++) {
            Edges.dueReader(x, reader, 0, -1, -1, 0, 0, 0, -1, 1);
            Edges.dueHas(x, reader, -1, -1, -1, -1, -1);
            Edges.due("ifRead", x.ifRead(reader), 1);
            Edges.due("wouldBeHalf", x.wouldBeHalf(reader), 0);
        }
    }

    static void promise1TheBufferAndTheSavedStatesOfANewObjectAreEmpty() {
        Watched x = new Watched();
        Edges.due("firstError", x.firstError(), 0);
        Edges.due("clearBuffer", x.clearBuffer(), 0);
        Edges.dueThrow("play", x, y -> y.play(), Edges.ARGUMENT);
        Edges.dueThrow("undo", x, y -> y.undo(), Edges.STATE);
    }

    static void promise1ObjectsHaveNothingInCommon() {
        Watched early = new Watched();
        Watched x = new Watched();
        Edges.RICH.make(x);
        Edges.dueSame("an object made before", Edges.allLooks(early), Edges.allLooks(new Watched()));
        Watched other = new Watched();
        Edges.RICH.make(other);
        other.done(2);
        other.undo();
        other.clearBuffer();
        Watched twin = new Watched();
        Edges.RICH.make(twin);
        Edges.dueSame("an object beside another", Edges.allLooks(x), Edges.allLooks(twin));
    }

    // ---- 19: count

    static void promise19CountRefusesAWhatBelowZero() {
        Edges.refused("count(-1)", Edges.NEW, x -> x.count(-1), Edges.ARGUMENT);
        Edges.refused("count(-1)", Edges.RICH, x -> x.count(-1), Edges.ARGUMENT);
        Edges.refused("count(MIN)", Edges.NEW, x -> x.count(Integer.MIN_VALUE), Edges.ARGUMENT);
    }

    static void promise19CountRefusesAWhatAboveEight() {
        Edges.refused("count(9)", Edges.NEW, x -> x.count(9), Edges.ARGUMENT);
        Edges.refused("count(9)", Edges.RICH, x -> x.count(9), Edges.ARGUMENT);
        Edges.refused("count(MAX)", Edges.NEW, x -> x.count(Integer.MAX_VALUE), Edges.ARGUMENT);
    }

    static void promise19CountOfAStateWithSomethingOfEverything() {
        Watched x = new Watched();
        Edges.RICH.make(x);
        Edges.dueCounts(x, 37, 2, 1, 2, 1, 1, 1, 5, 6);
    }

    static void promise19WhoChalksIsNoneWithoutOne() {
        Watched x = new Watched();
        Edges.due("at first", x.count(1), -1);
        x.come(0);
        Edges.due("the clerk 0", x.count(1), 0);
        x.done(0);
        Edges.due("any more", x.count(1), -1);
    }

    static void promise19WhoWaitOfAnEmptyAndOfAFullRow() {
        Watched x = new Watched();
        int[] clerks = {1, 2, 0};
        Edges.due("of an empty row", x.count(2), 0);
        for (int i = 0; i < 3; i++) {
            x.come(clerks[i]);
            Edges.due("who wait", x.count(2), i);
        }
        for (int i = 0; i < 3; i++) {
            x.done(clerks[i]);
            Edges.due("who wait", x.count(2), Math.max(0, 1 - i));
        }
    }

    static void promise19WhoReadIsZeroToFour() {
        Watched x = new Watched();
        Edges.due("none", x.count(3), 0);
        for (int reader = 0; reader < 4; reader++) {
            x.begin(reader);
            Edges.due("who read", x.count(3), reader + 1);
        }
        Edges.looks(x, 2, 5);
        Edges.due("all still", x.count(3), 4);
        x.look(2);
        Edges.due("one less", x.count(3), 3);
    }

    static void promise19TriesAreThoseOfAllReaders() {
        Watched x = new Watched();
        Edges.tries(x, 0);
        Edges.tries(x, 3);
        x.come(0);
        x.begin(0);
        x.begin(1);
        x.begin(3);
        Edges.dueCounts(x, 1, 0, 0, 0, 3, 2, 0, 5, 6);
    }

    static void promise19TheSameAsTheOldestKeptNoticeIsNoHalf() {
        Watched x = new Watched();
        x.reader(0, false);
        x.begin(0);
        Edges.looks(x, 0, 5);
        Edges.posts(x, 1, 15);
        Edges.due("look(0)", x.look(0), 101);
        Edges.due("halves", x.count(6), 0);
    }

    static void promise19TheSameAsANoticeThatIsNotKeptAnyMoreIsAHalf() {
        Watched x = new Watched();
        x.reader(0, false);
        x.begin(0);
        Edges.looks(x, 0, 5);
        Edges.posts(x, 1, 16);
        Edges.due("look(0)", x.look(0), 101);
        Edges.due("halves", x.count(6), 1);
    }

    static void promise19AHalfStaysCountedWhenItIsWholeLater() {
        Watched x = new Watched();
        x.reader(0, false);
        x.come(0);
        x.chalk(0, 1);
        Edges.tries(x, 0);
        Edges.due("halves", x.count(6), 1);
        x.done(0);
        Edges.due("whole later", x.readerOf(0, 6), 1);
        Edges.due("halves", x.count(6), 1);
        Edges.tries(x, 0);
        Edges.due("a whole one is none", x.count(6), 1);
    }

    static void promise19AFailedTryIsNoHalf() {
        Watched x = new Watched();
        x.begin(0);
        Edges.looks(x, 0, 2);
        x.come(0);
        x.chalk(4, 9);
        Edges.looks(x, 0, 3);
        Edges.due("look(0)", x.look(0), 100);
        Edges.due("halves", x.count(6), 0);
    }

    static void promise19SavedStatesAreZeroToSix() {
        Watched x = new Watched();
        Edges.due("saved states", x.count(8), 0);
        for (int calls = 1; calls <= 8; calls++) {
            x.set(calls);
            Edges.due("saved states", x.count(8), Math.min(calls, 6));
        }
        x.undo();
        Edges.due("saved states", x.count(8), 5);
    }

    // ---- 24: digest

    private static long hashed(List<Long> values) {
        long hash = 3359L;
        for (long value : values) {
            hash = 31L * hash + value;
        }
        return hash;
    }

    private static void add(List<Long> values, long... more) {
        for (long value : more) {
            values.add(value);
        }
    }

    /** The list of the document, written out by number: nothing in it is asked of an object. */
    static void promise24DigestOfANewObject() {
        List<Long> values = new ArrayList<>();
        add(values, 0, -1, 0, 0, 0, 0, 0, 5, 0);
        add(values, 0, 0, 0, 0, 0);
        for (int clerk = 0; clerk < 3; clerk++) {
            add(values, 0, -1, 0);
        }
        for (int reader = 0; reader < 4; reader++) {
            add(values, 0, -1, -1, 0, 0, 0, -1, 1, -1, -1, -1, -1, -1, 1, 0);
        }
        add(values, 0, 0, 0, 0, 0);
        add(values, 0, 0x3FF0000000000000L, 0);
        Edges.dueSame("digest", new Watched().digest(), hashed(values));
    }

    static void promise24DigestOfAStateWithSomethingOfEverything() {
        List<Long> values = new ArrayList<>();
        add(values, 37, 2, 1, 2, 1, 1, 1, 5, 6);
        add(values, 99, 55, 0, 0, 44);
        add(values, 2, 0, 17, 0, -1, 1, 1, -1, 0);
        add(values, 1, 36, 2, 0, 0, 0, -1, 1, -1, -1, -1, -1, -1, 0, 0);
        add(values, 0, -1, -1, 1, 1, 0, -1, 1, -1, -1, -1, -1, -1, 0, 0);
        add(values, 0, -1, -1, 0, 0, 0, -1, 1, -1, -1, -1, -1, -1, 0, 0);
        add(values, 1, 37, 3, 0, 0, 1, 18, 0, 17, 0, 0, 0, 44, 1, 1);
        for (int notice = 3; notice <= 17; notice++) {
            add(values, notice, 0, 0, 0, 0);
        }
        add(values, 17, 0, 0, 0, 44);
        add(values, 2, Double.doubleToLongBits(0.5), 3, 'c', '1', 'w');
        Watched x = new Watched();
        Edges.RICH.make(x);
        Edges.dueSame("digest", x.digest(), hashed(values));
    }

    /** What this object answers now, in the document's order, with the text that is in its buffer. */
    private static long hashedLooks(Watched x, String buffer) {
        List<Long> values = new ArrayList<>();
        for (int what = 0; what < 9; what++) {
            add(values, x.count(what));
        }
        for (int field = 0; field < 5; field++) {
            add(values, x.field(field));
        }
        for (int clerk = 0; clerk < 3; clerk++) {
            add(values, x.clerk(clerk, 0), x.clerk(clerk, 1), x.clerk(clerk, 2));
        }
        for (int reader = 0; reader < 4; reader++) {
            addReader(values, x, reader);
        }
        int latest = x.count(0) / 2;
        for (int notice = Math.max(0, latest - 15); notice <= latest; notice++) {
            for (int field = 0; field < 5; field++) {
                add(values, x.notice(notice, field));
            }
        }
        add(values, x.busy(), Double.doubleToLongBits(x.wellShare()), buffer.length());
        for (int i = 0; i < buffer.length(); i++) {
            add(values, buffer.charAt(i));
        }
        return hashed(values);
    }

    private static void addReader(List<Long> values, Watched x, int reader) {
        for (int what = 0; what < 8; what++) {
            add(values, x.readerOf(reader, what));
        }
        for (int field = 0; field < 5; field++) {
            add(values, x.has(reader, field));
        }
        add(values, x.ifRead(reader), x.wouldBeHalf(reader));
    }

    private static void dueDigest(String state, Edges.Setup setup, String buffer) {
        Watched x = new Watched();
        setup.make(x);
        Edges.append(x, buffer);
        Edges.dueSame("digest " + state, x.digest(), hashedLooks(x, buffer));
    }

    static void promise24DigestOfAnEmptyAndOfAFullBuffer() {
        dueDigest("of an empty buffer", Edges.FULL_ROW, "");
        dueDigest("of one character", Edges.FULL_ROW, "!");
        dueDigest("of a full buffer", Edges.FULL_ROW, Edges.repeated("~!c0Zz", 10));
    }

    static void promise24DigestOfABufferThatIsClearedHasNoneOfIt() {
        dueDigest("of a cleared buffer", x -> {
            Edges.append(x, "c0d0x");
            x.clearBuffer();
        }, "");
        dueDigest("of a played buffer", x -> Edges.play(x, "c0d0"), "b");
    }

    static void promise24DigestOfSixteenAndOfMoreNotices() {
        dueDigest("of 15 notices", x -> Edges.posts(x, 1, 14), "");
        dueDigest("of 16 notices", x -> Edges.posts(x, 1, 15), "");
        dueDigest("of 17 notices", x -> Edges.posts(x, 1, 16), "");
        dueDigest("of 18 notices", x -> Edges.posts(x, 1, 17), "");
        dueDigest("of 34 notices", x -> Edges.posts(x, 1, 33), "");
    }

    static void promise24DigestAmidChalking() {
        dueDigest("amid chalking of the first", x -> x.come(0), "");
        dueDigest("amid chalking of the 17th", x -> {
            Edges.posts(x, 1, 15);
            x.come(2);
            x.chalk(4, 99);
        }, "");
    }

    static void promise24DigestOfEachCountOfSavedStates() {
        for (int calls = 0; calls <= 7; calls++) {
            int last = calls;
            dueDigest("of " + calls + " calls", x -> {
                for (int value = 1; value <= last; value++) {
                    x.set(value);
                }
            }, "");
        }
    }

    /** The bits of each share that so few tries can have. */
    static void promise24DigestOfTheShareFromNoneToAll() {
        for (int well = 0; well <= 8; well++) {
            for (int failed = 0; failed <= 20; failed++) {
                int wells = well;
                int fails = failed;
                dueDigest("of " + well + " well and " + failed + " failed", x -> {
                    x.set(20);
                    for (int i = 0; i < wells; i++) {
                        Edges.tries(x, 0);
                    }
                    x.come(0);
                    Edges.begins(x, 1, fails);
                }, "");
            }
        }
    }

    /** The bits of a share that is far below one. */
    static void promise24DigestOfASmallShare() {
        dueDigest("of one of 241 tries", x -> {
            Edges.tries(x, 0);
            x.set(20);
            x.come(0);
            for (int i = 0; i < 12; i++) {
                x.reader(1, true);
                Edges.begins(x, 1, 20);
            }
            Edges.due("failed tries", x.count(4), 240);
        }, "");
    }

    static void promise24DigestAtThe512thCall() {
        List<Long> values = new ArrayList<>();
        add(values, 510, -1, 0, 0, 0, 0, 0, 5, 6, 0, 0, 0, 0, 0, 0, -1, 255, 0, -1, 0, 0, -1, 0);
        for (int reader = 0; reader < 4; reader++) {
            add(values, 0, -1, -1, 0, 0, 0, -1, 1, -1, -1, -1, -1, -1, 1, 0);
        }
        add(values, new long[16 * 5]);
        add(values, 0, Double.doubleToLongBits(1.0), 0);
        Watched x = new Watched();
        for (int notice = 1; notice <= 255; notice++) {
            x.come(0);
            Edges.due("done(0)", x.done(0), notice);
        }
        Edges.due("the number", x.count(0), 510);
        Edges.dueSame("digest", x.digest(), hashed(values));
    }

    static void promise24DigestOfReadersInEachState() {
        dueDigest("of readers", x -> {
            Edges.tries(x, 0);
            x.begin(0);
            x.set(2);
            x.come(1);
            Edges.begins(x, 1, 2);
            x.reader(2, false);
            x.chalk(3, 33);
            Edges.tries(x, 2);
            x.begin(2);
            Edges.looks(x, 2, 5);
        }, "");
    }

    static void promise24DigestChangesNothing() {
        Watched x = new Watched();
        Edges.RICH.make(x);
        long first = x.digest();
        Edges.dueSame("the second digest", x.digest(), first);
        Watched twin = new Watched();
        Edges.RICH.make(twin);
        Edges.dueSame("all looks", Edges.allLooks(x), Edges.allLooks(twin));
        Edges.due("undo", x.undo(), 5);
    }
}

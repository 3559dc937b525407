/** The edges that promises 5 to 8, 17, 18, 20, 21 and 23 name: readers, their tries, the setting. */
public final class ReaderEdgesTest {
    /** The number is odd, and the reader 1 has given up. */
    private static final Edges.Setup GIVEN_UP = x -> {
        x.come(0);
        Edges.begins(x, 1, 5);
    };

    /** The number is even again, and the reader 1 has given up. */
    private static final Edges.Setup GIVEN_UP_EVEN = x -> {
        GIVEN_UP.make(x);
        x.done(0);
    };

    private static final Edges.Setup ALL_READ = x -> {
        for (int reader = 0; reader < 4; reader++) {
            x.begin(reader);
        }
    };

    public static void main(String[] args) {
        Edges.runAll(ReaderEdgesTest.class);
    }

    // ---- 5: reader

    static void promise5ReaderRefusesAReaderBelowZero() {
        Edges.refused("reader(-1, true)", Edges.NEW, x -> x.reader(-1, true), Edges.INDEX);
        Edges.refused("reader(-1, false)", Edges.RICH, x -> x.reader(-1, false), Edges.INDEX);
        Edges.refused("reader(MIN, true)", Edges.NEW, x -> x.reader(Integer.MIN_VALUE, true), Edges.INDEX);
    }

    static void promise5ReaderRefusesAReaderAboveThree() {
        Edges.refused("reader(4, true)", Edges.NEW, x -> x.reader(4, true), Edges.INDEX);
        Edges.refused("reader(4, false)", Edges.RICH, x -> x.reader(4, false), Edges.INDEX);
        Edges.refused("reader(MAX, false)", Edges.NEW, x -> x.reader(Integer.MAX_VALUE, false), Edges.INDEX);
    }

    static void promise5ReaderTakesTheFirstAndTheLastOne() {
        Watched x = new Watched();
        Edges.due("reader(0, false)", x.reader(0, false), 1);
        Edges.due("reader(3, false)", x.reader(3, false), 1);
        int[] heeds = {0, 1, 1, 0};
        for (int reader = 0; reader < 4; reader++) {
            Edges.due("heeds", x.readerOf(reader, 7), heeds[reader]);
        }
    }

    static void promise5ReaderAnswersWhetherTheNumberWasHeeded() {
        Watched x = new Watched();
        Edges.due("at first", x.reader(2, true), 1);
        Edges.due("still", x.reader(2, false), 1);
        Edges.due("not any more", x.reader(2, false), 0);
        Edges.due("still not", x.reader(2, true), 0);
        Edges.due("again", x.reader(2, true), 1);
    }

    static void promise5ReaderAmidATryIsAway() {
        Watched x = new Watched();
        x.begin(0);
        Edges.looks(x, 0, 5);
        x.reader(0, true);
        Edges.dueReader(x, 0, 0, -1, -1, 0, 0, 0, -1, 1);
        x.begin(0);
        Edges.dueReader(x, 0, 1, 0, 0, 0, 0, 0, -1, 1);
    }

    static void promise5ReaderWithANoticeHasItNoLonger() {
        Watched x = new Watched();
        Edges.tries(x, 0);
        x.reader(0, true);
        Edges.dueHas(x, 0, -1, -1, -1, -1, -1);
        Edges.dueReader(x, 0, 0, -1, -1, 0, 0, 1, -1, 1);
    }

    static void promise5ReaderWhoHasGivenUpCanBegin() {
        Watched x = new Watched();
        GIVEN_UP.make(x);
        x.reader(1, true);
        Edges.dueReader(x, 1, 0, -1, -1, 0, 5, 0, -1, 1);
        Edges.due("begin(1)", x.begin(1), 0);
        Edges.dueReader(x, 1, 0, -1, -1, 1, 6, 0, -1, 1);
    }

    static void promise5ReaderLeavesWhatIsCounted() {
        Watched x = new Watched();
        x.reader(0, false);
        x.come(0);
        x.chalk(0, 1);
        Edges.tries(x, 0);
        x.begin(1);
        x.reader(0, true);
        x.reader(1, false);
        Edges.dueCounts(x, 1, 0, 0, 0, 1, 1, 1, 5, 6);
        Edges.due("tries that did well", x.readerOf(0, 5), 1);
        Edges.due("failed tries", x.readerOf(1, 4), 1);
        Edges.due("wellShare", x.wellShare(), 0.5);
    }

    static void promise5ReaderLeavesTheOthers() {
        Watched x = new Watched();
        ALL_READ.make(x);
        x.reader(1, false);
        Edges.due("who read", x.count(3), 3);
        Edges.dueReader(x, 0, 1, 0, 0, 0, 0, 0, -1, 1);
        Edges.dueReader(x, 2, 1, 0, 0, 0, 0, 0, -1, 1);
    }

    static void promise5ReaderIsUndoableAlsoIfItChangesNothing() {
        Watched x = new Watched();
        x.reader(3, true);
        Edges.due("saved states", x.count(8), 1);
        x.begin(3);
        x.reader(3, false);
        Edges.due("undo", x.undo(), 2);
        Edges.dueReader(x, 3, 1, 0, 0, 0, 0, 0, -1, 1);
    }

    // ---- 6: begin

    static void promise6BeginRefusesAReaderBelowZero() {
        Edges.refused("begin(-1)", Edges.NEW, x -> x.begin(-1), Edges.INDEX);
        Edges.refused("begin(-1)", Edges.RICH, x -> x.begin(-1), Edges.INDEX);
        Edges.refused("begin(MIN)", Edges.NEW, x -> x.begin(Integer.MIN_VALUE), Edges.INDEX);
    }

    static void promise6BeginRefusesAReaderAboveThree() {
        Edges.refused("begin(4)", Edges.NEW, x -> x.begin(4), Edges.INDEX);
        Edges.refused("begin(4)", Edges.RICH, x -> x.begin(4), Edges.INDEX);
        Edges.refused("begin(MAX)", Edges.NEW, x -> x.begin(Integer.MAX_VALUE), Edges.INDEX);
    }

    static void promise6BeginOfNoReaderNamesTheIndexWhateverTheOthersDo() {
        Edges.refused("begin(4)", ALL_READ, x -> x.begin(4), Edges.INDEX);
        Edges.refused("begin(-1)", GIVEN_UP, x -> x.begin(-1), Edges.INDEX);
    }

    static void promise6BeginTakesTheFirstAndTheLastOne() {
        Watched x = new Watched();
        Edges.due("begin(0)", x.begin(0), 1);
        Edges.due("begin(3)", x.begin(3), 1);
        Edges.dueReader(x, 0, 1, 0, 0, 0, 0, 0, -1, 1);
        Edges.dueReader(x, 1, 0, -1, -1, 0, 0, 0, -1, 1);
        Edges.dueReader(x, 3, 1, 0, 0, 0, 0, 0, -1, 1);
    }

    static void promise6BeginRefusesOneWhoReads() {
        Edges.refused("begin(0)", ALL_READ, x -> x.begin(0), Edges.STATE);
        Edges.refused("begin(0)", Edges.RICH, x -> x.begin(0), Edges.STATE);
    }

    static void promise6BeginRefusesOneWhoReadsAndDoesNotHeed() {
        Edges.refused("begin(3)", Edges.RICH, x -> x.begin(3), Edges.STATE);
    }

    static void promise6BeginRefusesOneWhoTookAllFieldsButNotTheNumber() {
        Edges.refused("begin(2)", x -> {
            x.begin(2);
            Edges.looks(x, 2, 5);
        }, x -> x.begin(2), Edges.STATE);
    }

    static void promise6BeginRefusesOneWhoHasGivenUp() {
        Edges.refused("begin(1)", GIVEN_UP, x -> x.begin(1), Edges.STATE);
    }

    static void promise6BeginRefusesOneWhoHasGivenUpAlsoWhenTheNumberIsEven() {
        Edges.refused("begin(1)", GIVEN_UP_EVEN, x -> x.begin(1), Edges.STATE);
    }

    static void promise6BeginWithOneTryLessThanTheSettingIsPossible() {
        Watched x = new Watched();
        x.come(0);
        Edges.begins(x, 1, 4);
        Edges.dueReader(x, 1, 0, -1, -1, 4, 4, 0, -1, 1);
        x.done(0);
        Edges.due("begin(1)", x.begin(1), 1);
        Edges.dueReader(x, 1, 1, 2, 0, 4, 4, 0, -1, 1);
    }

    static void promise6BeginAtAnOddNumberFailsAndStaysAway() {
        Watched x = new Watched();
        x.come(0);
        Edges.due("begin(0)", x.begin(0), 0);
        Edges.dueReader(x, 0, 0, -1, -1, 1, 1, 0, -1, 1);
        Edges.due("failed tries of all", x.count(4), 1);
        Edges.due("who read", x.count(3), 0);
    }

    static void promise6BeginAtAnOddNumberOfOneWhoDoesNotHeed() {
        Watched x = new Watched();
        x.reader(0, false);
        x.come(0);
        Edges.due("begin(0)", x.begin(0), 1);
        Edges.dueReader(x, 0, 1, 1, 0, 0, 0, 0, -1, 0);
    }

    static void promise6BeginNotesTheNumberAlsoZero() {
        Watched x = new Watched();
        x.begin(0);
        Edges.due("noted", x.readerOf(0, 1), 0);
        Edges.posts(x, 1, 2);
        x.begin(1);
        Edges.due("noted", x.readerOf(1, 1), 4);
        Edges.due("noted before", x.readerOf(0, 1), 0);
    }

    static void promise6BeginAgainStartsAtTheFirstField() {
        Watched x = new Watched();
        Edges.post(x, 99);
        Edges.tries(x, 0);
        x.begin(0);
        Edges.due("values taken", x.readerOf(0, 2), 0);
        Edges.due("look(0)", x.look(0), 99);
    }

    static void promise6BeginIsUndoableAlsoWhenItFails() {
        Watched x = new Watched();
        x.begin(0);
        x.come(0);
        x.begin(1);
        Edges.due("saved states", x.count(8), 3);
        Edges.due("undo", x.undo(), 2);
        Edges.dueReader(x, 1, 0, -1, -1, 0, 0, 0, -1, 1);
        x.undo();
        x.undo();
        Edges.dueReader(x, 0, 0, -1, -1, 0, 0, 0, -1, 1);
    }

    // ---- 7: look

    static void promise7LookRefusesAReaderBelowZero() {
        Edges.refused("look(-1)", Edges.NEW, x -> x.look(-1), Edges.INDEX);
        Edges.refused("look(-1)", Edges.RICH, x -> x.look(-1), Edges.INDEX);
        Edges.refused("look(MIN)", Edges.NEW, x -> x.look(Integer.MIN_VALUE), Edges.INDEX);
    }

    static void promise7LookRefusesAReaderAboveThree() {
        Edges.refused("look(4)", Edges.NEW, x -> x.look(4), Edges.INDEX);
        Edges.refused("look(4)", ALL_READ, x -> x.look(4), Edges.INDEX);
        Edges.refused("look(MAX)", Edges.RICH, x -> x.look(Integer.MAX_VALUE), Edges.INDEX);
    }

    static void promise7LookRefusesOneWhoIsAway() {
        Edges.refused("look(0)", Edges.NEW, x -> x.look(0), Edges.STATE);
        Edges.refused("look(2)", Edges.RICH, x -> x.look(2), Edges.STATE);
    }

    static void promise7LookRefusesOneWhoseBeginFailed() {
        Edges.refused("look(1)", Edges.RICH, x -> x.look(1), Edges.STATE);
    }

    static void promise7LookRefusesOneWhoHasGivenUp() {
        Edges.refused("look(1)", GIVEN_UP, x -> x.look(1), Edges.STATE);
        Edges.refused("look(1)", GIVEN_UP_EVEN, x -> x.look(1), Edges.STATE);
    }

    static void promise7LookRefusesASeventhOneAfterATryThatDidWell() {
        Edges.refused("look(0)", x -> Edges.tries(x, 0), x -> x.look(0), Edges.STATE);
    }

    static void promise7LookRefusesASeventhOneAfterATryThatFailed() {
        Edges.refused("look(0)", x -> {
            x.begin(0);
            x.come(0);
            Edges.looks(x, 0, 6);
        }, x -> x.look(0), Edges.STATE);
    }

    static void promise7LookTakesFiveFieldsInTurn() {
        Watched x = new Watched();
        Edges.play(x, "c0w011w122w233w344w499d0");
        x.begin(3);
        int[] values = {11, 22, 33, 44, 99};
        for (int i = 0; i < 5; i++) {
            Edges.due("values taken", x.readerOf(3, 2), i);
            Edges.due("look(3)", x.look(3), values[i]);
            Edges.due("reads", x.readerOf(3, 0), 1);
        }
        Edges.due("values taken", x.readerOf(3, 2), 5);
        Edges.dueHas(x, 3, -1, -1, -1, -1, -1);
    }

    static void promise7TheSixthLookIsAtTheSameNumber() {
        Watched x = new Watched();
        x.begin(0);
        Edges.looks(x, 0, 5);
        Edges.due("look(0)", x.look(0), 101);
        Edges.dueReader(x, 0, 0, -1, -1, 0, 0, 1, 0, 1);
        Edges.due("tries that did well", x.count(5), 1);
    }

    static void promise7TheSixthLookIsAtANumberOneMore() {
        Watched x = new Watched();
        x.begin(0);
        Edges.looks(x, 0, 5);
        x.come(1);
        Edges.due("look(0)", x.look(0), 100);
        Edges.dueReader(x, 0, 0, -1, -1, 1, 1, 0, -1, 1);
        Edges.due("failed tries", x.count(4), 1);
        Edges.due("halves", x.count(6), 0);
    }

    static void promise7TheSixthLookIsAtAnotherEvenNumber() {
        Watched x = new Watched();
        x.begin(0);
        Edges.looks(x, 0, 5);
        x.come(1);
        x.done(1);
        Edges.due("look(0)", x.look(0), 100);
        Edges.dueReader(x, 0, 0, -1, -1, 1, 1, 0, -1, 1);
    }

    static void promise7OnlyTheSixthLookIsAtTheNumber() {
        Watched x = new Watched();
        x.begin(0);
        x.come(1);
        x.chalk(4, 77);
        int[] values = {0, 0, 0, 0, 77};
        for (int i = 0; i < 5; i++) {
            Edges.due("look(0)", x.look(0), values[i]);
        }
        Edges.due("failed tries", x.count(4), 0);
        Edges.due("look(0)", x.look(0), 100);
    }

    static void promise7OneWhoDoesNotHeedDoesWellAtAnotherNumber() {
        Watched x = new Watched();
        x.reader(0, false);
        x.begin(0);
        Edges.looks(x, 0, 5);
        x.come(1);
        Edges.due("look(0)", x.look(0), 101);
        Edges.dueReader(x, 0, 0, -1, -1, 0, 0, 1, 0, 0);
    }

    static void promise7AFailedTryLeavesTheNoticeHadBefore() {
        Watched x = new Watched();
        Edges.post(x, 99);
        Edges.tries(x, 0);
        Edges.post(x, 5);
        x.begin(0);
        Edges.looks(x, 0, 5);
        x.come(0);
        Edges.due("look(0)", x.look(0), 100);
        Edges.dueHas(x, 0, 99, 0, 0, 0, 0);
    }

    static void promise7ATryThatDoesWellTakesThePlaceOfTheNoticeHadBefore() {
        Watched x = new Watched();
        Edges.post(x, 99);
        Edges.tries(x, 0);
        Edges.post(x, 5);
        Edges.due("the second try", Edges.tries(x, 0), 101);
        Edges.dueHas(x, 0, 5, 0, 0, 0, 0);
    }

    static void promise7ATryThatDoesWellEndsTheRowOfFailedOnes() {
        Watched x = new Watched();
        x.come(0);
        Edges.begins(x, 0, 4);
        x.done(0);
        Edges.due("the try", Edges.tries(x, 0), 101);
        Edges.dueReader(x, 0, 0, -1, -1, 0, 4, 1, 1, 1);
        x.come(0);
        Edges.begins(x, 0, 4);
        Edges.due("away", x.readerOf(0, 0), 0);
        x.begin(0);
        Edges.dueReader(x, 0, 2, -1, -1, 5, 9, 1, 1, 1);
    }

    static void promise7AFailedLookGoesOnWithTheRowOfFailedBegins() {
        Watched x = new Watched();
        x.come(0);
        Edges.begins(x, 0, 4);
        x.done(0);
        x.begin(0);
        Edges.looks(x, 0, 5);
        x.come(0);
        Edges.due("look(0)", x.look(0), 100);
        Edges.dueReader(x, 0, 2, -1, -1, 5, 5, 0, -1, 1);
        Edges.dueThrow("begin(0)", x, y -> y.begin(0), Edges.STATE);
    }

    static void promise7LookIsUndoableAtAFieldAndAtTheNumber() {
        Watched x = new Watched();
        x.begin(0);
        Edges.looks(x, 0, 5);
        x.look(0);
        Edges.due("saved states", x.count(8), 6);
        Edges.due("undo", x.undo(), 5);
        Edges.dueReader(x, 0, 1, 0, 5, 0, 0, 0, -1, 1);
        Edges.due("undo", x.undo(), 4);
        Edges.dueReader(x, 0, 1, 0, 4, 0, 0, 0, -1, 1);
    }

    // ---- 8: set

    static void promise8SetRefusesAValueBelowOne() {
        Edges.refused("set(0)", Edges.NEW, x -> x.set(0), Edges.ARGUMENT);
        Edges.refused("set(0)", Edges.RICH, x -> x.set(0), Edges.ARGUMENT);
        Edges.refused("set(-1)", Edges.NEW, x -> x.set(-1), Edges.ARGUMENT);
        Edges.refused("set(MIN)", Edges.NEW, x -> x.set(Integer.MIN_VALUE), Edges.ARGUMENT);
    }

    static void promise8SetRefusesAValueAbove20() {
        Edges.refused("set(21)", Edges.NEW, x -> x.set(21), Edges.ARGUMENT);
        Edges.refused("set(21)", Edges.RICH, x -> x.set(21), Edges.ARGUMENT);
        Edges.refused("set(MAX)", Edges.NEW, x -> x.set(Integer.MAX_VALUE), Edges.ARGUMENT);
    }

    static void promise8SetTakesTheSmallestAndTheLargestValue() {
        Watched x = new Watched();
        Edges.due("count(7)", x.count(7), 5);
        Edges.due("set(1)", x.set(1), 5);
        Edges.due("count(7)", x.count(7), 1);
        Edges.due("set(20)", x.set(20), 1);
        Edges.due("count(7)", x.count(7), 20);
        Edges.due("set(5)", x.set(5), 20);
    }

    static void promise8SetToTheSameValueSavesAState() {
        Watched x = new Watched();
        Edges.due("set(5)", x.set(5), 5);
        Edges.due("saved states", x.count(8), 1);
        Edges.due("undo", x.undo(), 0);
        Edges.due("count(7)", x.count(7), 5);
    }

    static void promise8ReadersGiveUpAfterOneFailedTryAtTheSmallestSetting() {
        Watched x = new Watched();
        x.set(1);
        Edges.due("away", x.readerOf(0, 0), 0);
        x.come(0);
        x.begin(0);
        Edges.due("given up", x.readerOf(0, 0), 2);
        Edges.dueThrow("begin(0)", x, y -> y.begin(0), Edges.STATE);
    }

    static void promise8ReadersGiveUpAfter20FailedTriesAtTheLargestSetting() {
        Watched x = new Watched();
        x.set(20);
        x.come(0);
        Edges.begins(x, 0, 19);
        Edges.due("away", x.readerOf(0, 0), 0);
        Edges.due("begin(0)", x.begin(0), 0);
        Edges.due("given up", x.readerOf(0, 0), 2);
        Edges.due("in a row", x.readerOf(0, 3), 20);
        Edges.dueThrow("begin(0)", x, y -> y.begin(0), Edges.STATE);
    }

    static void promise8BySetReadersHaveGivenUp() {
        Watched x = new Watched();
        x.come(0);
        Edges.begins(x, 0, 3);
        x.set(4);
        Edges.due("not with one more", x.readerOf(0, 0), 0);
        x.set(3);
        Edges.due("with as many", x.readerOf(0, 0), 2);
        Edges.due("the others not", x.readerOf(1, 0), 0);
        x.set(1);
        Edges.due("with fewer", x.readerOf(0, 0), 2);
        Edges.dueThrow("begin(0)", x, y -> y.begin(0), Edges.STATE);
    }

    static void promise8BySetReadersHaveNotGivenUpAnyMore() {
        Watched x = new Watched();
        GIVEN_UP_EVEN.make(x);
        x.set(6);
        Edges.due("away", x.readerOf(1, 0), 0);
        Edges.due("ifRead", x.ifRead(1), 1);
        Edges.due("begin(1)", x.begin(1), 1);
    }

    static void promise8OneWhoReadsHasNotGivenUpAndGoesOnToFail() {
        Watched x = new Watched();
        x.come(0);
        x.begin(0);
        x.done(0);
        x.begin(0);
        x.set(1);
        Edges.dueReader(x, 0, 1, 2, 0, 1, 1, 0, -1, 1);
        Edges.looks(x, 0, 5);
        x.come(0);
        Edges.due("look(0)", x.look(0), 100);
        Edges.dueReader(x, 0, 2, -1, -1, 2, 2, 0, -1, 1);
    }

    static void promise8OneWhoReadsHasNotGivenUpAndGoesOnToDoWell() {
        Watched x = new Watched();
        x.come(0);
        x.begin(0);
        x.done(0);
        x.begin(0);
        x.set(1);
        Edges.looks(x, 0, 5);
        Edges.due("look(0)", x.look(0), 101);
        Edges.dueReader(x, 0, 0, -1, -1, 0, 1, 1, 1, 1);
        Edges.due("begin(0)", x.begin(0), 1);
    }

    // ---- 17: readerOf

    static void promise17ReaderOfRefusesAReaderBelowZero() {
        Edges.refused("readerOf(-1, 0)", Edges.NEW, x -> x.readerOf(-1, 0), Edges.INDEX);
        Edges.refused("readerOf(-1, 7)", Edges.RICH, x -> x.readerOf(-1, 7), Edges.INDEX);
        Edges.refused("readerOf(MIN, 0)", Edges.NEW, x -> x.readerOf(Integer.MIN_VALUE, 0), Edges.INDEX);
    }

    static void promise17ReaderOfRefusesAReaderAboveThree() {
        Edges.refused("readerOf(4, 0)", Edges.NEW, x -> x.readerOf(4, 0), Edges.INDEX);
        Edges.refused("readerOf(4, 7)", Edges.RICH, x -> x.readerOf(4, 7), Edges.INDEX);
        Edges.refused("readerOf(MAX, 0)", Edges.NEW, x -> x.readerOf(Integer.MAX_VALUE, 0), Edges.INDEX);
    }

    static void promise17ReaderOfRefusesAWhatBelowZero() {
        Edges.refused("readerOf(0, -1)", Edges.NEW, x -> x.readerOf(0, -1), Edges.ARGUMENT);
        Edges.refused("readerOf(3, -1)", Edges.RICH, x -> x.readerOf(3, -1), Edges.ARGUMENT);
        Edges.refused("readerOf(0, MIN)", Edges.NEW, x -> x.readerOf(0, Integer.MIN_VALUE), Edges.ARGUMENT);
    }

    static void promise17ReaderOfRefusesAWhatAboveSeven() {
        Edges.refused("readerOf(0, 8)", Edges.NEW, x -> x.readerOf(0, 8), Edges.ARGUMENT);
        Edges.refused("readerOf(3, 8)", Edges.RICH, x -> x.readerOf(3, 8), Edges.ARGUMENT);
        Edges.refused("readerOf(0, MAX)", Edges.NEW, x -> x.readerOf(0, Integer.MAX_VALUE), Edges.ARGUMENT);
    }

    static void promise17ReaderOfNamesTheIndexBeforeTheArgument() {
        Edges.refused("readerOf(4, 8)", Edges.NEW, x -> x.readerOf(4, 8), Edges.INDEX);
        Edges.refused("readerOf(-1, -1)", Edges.RICH, x -> x.readerOf(-1, -1), Edges.INDEX);
    }

    static void promise17NotedAndTakenAreNoneWhenNotReading() {
        Watched x = new Watched();
        Edges.dueReader(x, 0, 0, -1, -1, 0, 0, 0, -1, 1);
        Edges.tries(x, 0);
        Edges.dueReader(x, 0, 0, -1, -1, 0, 0, 1, 0, 1);
        GIVEN_UP.make(x);
        Edges.dueReader(x, 1, 2, -1, -1, 5, 5, 0, -1, 1);
    }

    static void promise17TheNoticeHadIsNoneAmidTheFirstTry() {
        Watched x = new Watched();
        x.begin(0);
        Edges.looks(x, 0, 5);
        Edges.due("the notice had", x.readerOf(0, 6), -1);
        x.look(0);
        Edges.due("the notice had", x.readerOf(0, 6), 0);
    }

    static void promise17TheLatestOfTwoNoticesThatAreTheSame() {
        Watched x = new Watched();
        Edges.post(x, 1);
        Edges.tries(x, 0);
        Edges.post(x, 2);
        Edges.due("the only one", x.readerOf(0, 6), 1);
        Edges.post(x, 1);
        Edges.due("the latest one", x.readerOf(0, 6), 3);
    }

    static void promise17TheSameInAllFieldsAndNotInFourOfThem() {
        for (int field = 0; field < 5; field++) {
            Watched x = new Watched();
            Edges.tries(x, 0);
            x.come(0);
            x.chalk(field, 1);
            x.done(0);
            Edges.due("the same notice", x.readerOf(0, 6), 0);
        }
    }

    static void promise17TheSameAsTheOldestKeptNotice() {
        Watched x = new Watched();
        Edges.tries(x, 0);
        Edges.posts(x, 1, 15);
        Edges.due("the sixteenth is kept", x.readerOf(0, 6), 0);
        x.come(0);
        Edges.due("also amid chalking", x.readerOf(0, 6), 0);
        x.done(0);
        Edges.due("the seventeenth is not", x.readerOf(0, 6), -1);
        Edges.dueHas(x, 0, 0, 0, 0, 0, 0);
    }

    static void promise17TheSameAsTheFieldsThatAreBeingChalkedIsNone() {
        Watched x = new Watched();
        x.reader(0, false);
        x.come(0);
        x.chalk(0, 1);
        Edges.tries(x, 0);
        Edges.due("not whole yet", x.readerOf(0, 6), -1);
        x.done(0);
        Edges.due("whole", x.readerOf(0, 6), 1);
    }

    // ---- 18: has

    static void promise18HasRefusesAReaderBelowZero() {
        Edges.refused("has(-1, 0)", Edges.NEW, x -> x.has(-1, 0), Edges.INDEX);
        Edges.refused("has(-1, 4)", Edges.RICH, x -> x.has(-1, 4), Edges.INDEX);
        Edges.refused("has(MIN, 0)", Edges.NEW, x -> x.has(Integer.MIN_VALUE, 0), Edges.INDEX);
    }

    static void promise18HasRefusesAReaderAboveThree() {
        Edges.refused("has(4, 0)", Edges.NEW, x -> x.has(4, 0), Edges.INDEX);
        Edges.refused("has(4, 4)", Edges.RICH, x -> x.has(4, 4), Edges.INDEX);
        Edges.refused("has(MAX, 0)", Edges.NEW, x -> x.has(Integer.MAX_VALUE, 0), Edges.INDEX);
    }

    static void promise18HasRefusesAFieldBelowZero() {
        Edges.refused("has(0, -1)", Edges.NEW, x -> x.has(0, -1), Edges.INDEX);
        Edges.refused("has(3, -1)", Edges.RICH, x -> x.has(3, -1), Edges.INDEX);
        Edges.refused("has(0, MIN)", Edges.NEW, x -> x.has(0, Integer.MIN_VALUE), Edges.INDEX);
    }

    static void promise18HasRefusesAFieldAboveFour() {
        Edges.refused("has(0, 5)", Edges.NEW, x -> x.has(0, 5), Edges.INDEX);
        Edges.refused("has(3, 5)", Edges.RICH, x -> x.has(3, 5), Edges.INDEX);
        Edges.refused("has(0, MAX)", Edges.NEW, x -> x.has(0, Integer.MAX_VALUE), Edges.INDEX);
    }

    static void promise18HasRefusesNeitherReaderNorField() {
        Edges.refused("has(4, 5)", Edges.NEW, x -> x.has(4, 5), Edges.INDEX);
        Edges.refused("has(-1, -1)", Edges.RICH, x -> x.has(-1, -1), Edges.INDEX);
    }

    static void promise18HasIsNoneWithoutANotice() {
        Watched x = new Watched();
        Edges.dueHas(x, 0, -1, -1, -1, -1, -1);
        Edges.dueHas(x, 3, -1, -1, -1, -1, -1);
    }

    static void promise18HasOfTheFirstAndTheLastReader() {
        Watched x = new Watched();
        Edges.play(x, "c0w011w122w233w344w499d0");
        Edges.tries(x, 0);
        Edges.tries(x, 3);
        Edges.dueHas(x, 0, 11, 22, 33, 44, 99);
        Edges.dueHas(x, 1, -1, -1, -1, -1, -1);
        Edges.dueHas(x, 2, -1, -1, -1, -1, -1);
        Edges.dueHas(x, 3, 11, 22, 33, 44, 99);
    }

    static void promise18HasIsNotWhatIsBeingTaken() {
        Watched x = new Watched();
        Edges.tries(x, 0);
        Edges.post(x, 99);
        x.begin(0);
        Edges.looks(x, 0, 5);
        Edges.dueHas(x, 0, 0, 0, 0, 0, 0);
        x.look(0);
        Edges.dueHas(x, 0, 99, 0, 0, 0, 0);
    }

    // ---- 20: ifRead

    static void promise20IfReadRefusesAReaderBelowZero() {
        Edges.refused("ifRead(-1)", Edges.NEW, x -> x.ifRead(-1), Edges.INDEX);
        Edges.refused("ifRead(-1)", Edges.RICH, x -> x.ifRead(-1), Edges.INDEX);
        Edges.refused("ifRead(MIN)", Edges.NEW, x -> x.ifRead(Integer.MIN_VALUE), Edges.INDEX);
    }

    static void promise20IfReadRefusesAReaderAboveThree() {
        Edges.refused("ifRead(4)", Edges.NEW, x -> x.ifRead(4), Edges.INDEX);
        Edges.refused("ifRead(4)", Edges.RICH, x -> x.ifRead(4), Edges.INDEX);
        Edges.refused("ifRead(MAX)", Edges.NEW, x -> x.ifRead(Integer.MAX_VALUE), Edges.INDEX);
    }

    static void promise20IfReadOfTheFirstAndTheLastReader() {
        Watched x = new Watched();
        x.reader(3, false);
        Edges.due("ifRead(0)", x.ifRead(0), 1);
        x.come(0);
        Edges.due("ifRead(0)", x.ifRead(0), 0);
        Edges.due("ifRead(3)", x.ifRead(3), 1);
    }

    static void promise20IfReadIsNoneAtAsManyFailedTriesAsTheSetting() {
        Watched x = new Watched();
        x.come(0);
        Edges.begins(x, 1, 4);
        Edges.due("one less", x.ifRead(1), 0);
        x.begin(1);
        Edges.due("as many", x.ifRead(1), -1);
        x.done(0);
        Edges.due("as many, even", x.ifRead(1), -1);
        x.set(6);
        Edges.due("not given up any more", x.ifRead(1), 1);
    }

    static void promise20IfReadOfOneWhoReadsBeyondTheSettingIsNotNone() {
        Watched x = new Watched();
        x.come(0);
        x.begin(0);
        x.done(0);
        x.begin(0);
        x.set(1);
        Edges.due("it would do well", x.ifRead(0), 1);
        x.come(0);
        Edges.due("it would fail", x.ifRead(0), 0);
    }

    static void promise20IfReadAtTheFirstAndAtTheLastLook() {
        Watched x = new Watched();
        x.begin(0);
        Edges.due("no value taken", x.ifRead(0), 1);
        Edges.looks(x, 0, 5);
        Edges.due("all taken", x.ifRead(0), 1);
        x.come(0);
        Edges.due("another number", x.ifRead(0), 0);
        x.done(0);
        Edges.due("another even number", x.ifRead(0), 0);
        x.look(0);
        Edges.due("away again", x.ifRead(0), 1);
    }

    static void promise20IfReadChangesNothing() {
        Watched x = new Watched();
        Watched twin = new Watched();
        Edges.RICH.make(x);
        Edges.RICH.make(twin);
        for (int reader = 0; reader < 4; reader++) {
            x.ifRead(reader);
            x.wouldBeHalf(reader);
        }
        Edges.dueSame("all looks", Edges.allLooks(x), Edges.allLooks(twin));
        Edges.due("undo", x.undo(), 5);
    }

    // ---- 21: wouldBeHalf

    static void promise21WouldBeHalfRefusesAReaderBelowZero() {
        Edges.refused("wouldBeHalf(-1)", Edges.NEW, x -> x.wouldBeHalf(-1), Edges.INDEX);
        Edges.refused("wouldBeHalf(-1)", Edges.RICH, x -> x.wouldBeHalf(-1), Edges.INDEX);
        Edges.refused("wouldBeHalf(MIN)", Edges.NEW, x -> x.wouldBeHalf(Integer.MIN_VALUE), Edges.INDEX);
    }

    static void promise21WouldBeHalfRefusesAReaderAboveThree() {
        Edges.refused("wouldBeHalf(4)", Edges.NEW, x -> x.wouldBeHalf(4), Edges.INDEX);
        Edges.refused("wouldBeHalf(4)", Edges.RICH, x -> x.wouldBeHalf(4), Edges.INDEX);
        Edges.refused("wouldBeHalf(MAX)", Edges.NEW, x -> x.wouldBeHalf(Integer.MAX_VALUE), Edges.INDEX);
    }

    static void promise21WouldBeHalfOfTheFirstAndTheLastReader() {
        Watched x = new Watched();
        x.reader(0, false);
        x.reader(3, false);
        x.come(0);
        x.chalk(0, 1);
        int[] half = {1, 0, 0, 1};
        for (int reader = 0; reader < 4; reader++) {
            Edges.due("wouldBeHalf", x.wouldBeHalf(reader), half[reader]);
        }
        x.done(0);
        Edges.due("whole", x.wouldBeHalf(0), 0);
    }

    static void promise21WouldBeHalfIsZeroWhenTheTryWouldFail() {
        Watched x = new Watched();
        x.begin(0);
        Edges.looks(x, 0, 1);
        x.come(0);
        x.chalk(4, 9);
        Edges.due("ifRead(0)", x.ifRead(0), 0);
        Edges.due("at the end", x.wouldBeHalf(0), 0);
        Edges.due("at the begin", x.wouldBeHalf(1), 0);
    }

    static void promise21WouldBeHalfIsZeroWhenTheReaderHasGivenUp() {
        Watched x = new Watched();
        GIVEN_UP.make(x);
        x.chalk(0, 9);
        Edges.due("wouldBeHalf(1)", x.wouldBeHalf(1), 0);
    }

    static void promise21WouldBeHalfOfWhatTheOldestKeptNoticeIs() {
        Watched x = new Watched();
        x.reader(0, false);
        x.begin(0);
        Edges.looks(x, 0, 5);
        Edges.posts(x, 1, 15);
        Edges.due("the sixteenth is kept", x.wouldBeHalf(0), 0);
        x.come(0);
        Edges.due("also amid chalking", x.wouldBeHalf(0), 0);
        x.done(0);
        Edges.due("the seventeenth is not", x.wouldBeHalf(0), 1);
        Edges.due("look(0)", x.look(0), 101);
        Edges.due("halves", x.count(6), 1);
    }

    static void promise21WouldBeHalfAfterEachValueThatIsTaken() {
        for (int taken = 0; taken <= 5; taken++) {
            Watched x = new Watched();
            x.reader(2, false);
            x.begin(2);
            Edges.looks(x, 2, taken);
            Edges.play(x, "c0w011w122w233w344w499d0");
            boolean half = taken > 0 && taken < 5;
            Edges.due("wouldBeHalf with " + taken + " taken", x.wouldBeHalf(2), half ? 1 : 0);
        }
    }

    static void promise21WouldBeHalfWithoutTheValuesOfAnEarlierTry() {
        Watched x = new Watched();
        x.reader(2, false);
        x.begin(2);
        x.come(0);
        x.chalk(0, 9);
        Edges.looks(x, 2, 3);
        x.chalk(0, 0);
        Edges.due("with the value taken", x.wouldBeHalf(2), 1);
        x.reader(2, false);
        Edges.due("without it", x.wouldBeHalf(2), 0);
        x.begin(2);
        Edges.due("amid the next try", x.wouldBeHalf(2), 0);
    }

    // ---- 23: wellShare

    static void promise23WellShareWithoutAnyTryIsOne() {
        Watched x = new Watched();
        Edges.due("wellShare", x.wellShare(), 1.0);
        x.begin(0);
        Edges.looks(x, 0, 5);
        Edges.due("amid the first try", x.wellShare(), 1.0);
    }

    static void promise23WellShareOfFailedTriesAloneIsZero() {
        Watched x = new Watched();
        GIVEN_UP.make(x);
        Edges.due("wellShare", x.wellShare(), 0.0);
    }

    static void promise23WellShareOfOneTry() {
        Watched x = new Watched();
        x.come(0);
        x.begin(0);
        Edges.due("one that failed", x.wellShare(), 0.0);
        Watched y = new Watched();
        Edges.tries(y, 0);
        Edges.due("one that did well", y.wellShare(), 1.0);
    }

    static void promise23WellShareOfTriesThatDidWellAloneIsOne() {
        Watched x = new Watched();
        Edges.tries(x, 0);
        Edges.tries(x, 3);
        Edges.due("wellShare", x.wellShare(), 1.0);
    }

    static void promise23WellShareOfAllReadersTogether() {
        Watched x = new Watched();
        Edges.tries(x, 0);
        x.come(0);
        x.begin(3);
        Edges.due("one of two", x.wellShare(), 0.5);
        x.begin(2);
        Edges.due("one of three", x.wellShare(), 1.0 / 3.0);
        x.reader(1, false);
        Edges.tries(x, 1);
        x.begin(3);
        x.begin(0);
        x.begin(0);
        Edges.due("two of seven", x.wellShare(), 2.0 / 7.0);
        x.reader(3, true);
        Edges.due("with those of a reader told anew", x.wellShare(), 2.0 / 7.0);
        x.undo();
        x.undo();
        Edges.due("two of six", x.wellShare(), 2.0 / 6.0);
    }
}

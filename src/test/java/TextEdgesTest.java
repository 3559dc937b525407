/** The edges that promises 9 to 13 name: the buffer, its syntax, deeds as a text, and undo. */
public final class TextEdgesTest {
    private static final String FULL = Edges.repeated("c0", 30);

    private static final Edges.Setup FULL_BUFFER = x -> {
        x.come(1);
        Edges.append(x, FULL);
    };

    public static void main(String[] args) {
        Edges.runAll(TextEdgesTest.class);
    }

    private static int firstError(String text) {
        Watched x = new Watched();
        Edges.append(x, text);
        return x.firstError();
    }

    private static void dueFirstError(String text, int want) {
        Edges.due("firstError of " + text, firstError(text), want);
    }

    /** The text is refused by play, which changes nothing, and thus leaves the buffer too. */
    private static void playRefused(String text) {
        Edges.refused("play of " + text, x -> Edges.append(x, text), x -> x.play(), Edges.ARGUMENT);
    }

    // ---- 9: append

    static void promise9AppendRefusesACodeBelow33() {
        Edges.refused("append(32)", Edges.NEW, x -> x.append(32), Edges.ARGUMENT);
        Edges.refused("append(32)", Edges.RICH, x -> x.append(32), Edges.ARGUMENT);
        Edges.refused("append(0)", Edges.NEW, x -> x.append(0), Edges.ARGUMENT);
        Edges.refused("append(-1)", Edges.NEW, x -> x.append(-1), Edges.ARGUMENT);
        Edges.refused("append(MIN)", Edges.NEW, x -> x.append(Integer.MIN_VALUE), Edges.ARGUMENT);
    }

    static void promise9AppendRefusesACodeAbove126() {
        Edges.refused("append(127)", Edges.NEW, x -> x.append(127), Edges.ARGUMENT);
        Edges.refused("append(127)", Edges.RICH, x -> x.append(127), Edges.ARGUMENT);
        Edges.refused("append(MAX)", Edges.NEW, x -> x.append(Integer.MAX_VALUE), Edges.ARGUMENT);
    }

    static void promise9AppendRefusesACodeThatIsRightOnlyWhenCutShort() {
        Edges.refused("append(256 + c)", Edges.NEW, x -> x.append(256 + 'c'), Edges.ARGUMENT);
        Edges.refused("append(65536 + c)", Edges.NEW, x -> x.append(65536 + 'c'), Edges.ARGUMENT);
        Edges.refused("append(c - 256)", Edges.NEW, x -> x.append('c' - 256), Edges.ARGUMENT);
    }

    static void promise9AppendTakesTheSmallestAndTheLargestCode() {
        Watched x = new Watched();
        Edges.due("append(33)", x.append(33), 1);
        Edges.due("append(126)", x.append(126), 2);
        Edges.due("clearBuffer", x.clearBuffer(), 2);
    }

    static void promise9AppendTakesThe60thCharacter() {
        Watched x = new Watched();
        for (int length = 1; length <= 60; length++) {
            Edges.due("append", x.append('c'), length);
        }
        Edges.due("clearBuffer", x.clearBuffer(), 60);
    }

    static void promise9AppendRefusesThe61stCharacter() {
        Edges.refused("append(c)", FULL_BUFFER, x -> x.append('c'), Edges.STATE);
        Edges.refused("append(33)", FULL_BUFFER, x -> x.append(33), Edges.STATE);
        Edges.refused("append(126)", FULL_BUFFER, x -> x.append(126), Edges.STATE);
    }

    static void promise9AppendNamesTheArgumentBeforeTheState() {
        Edges.refused("append(32)", FULL_BUFFER, x -> x.append(32), Edges.ARGUMENT);
        Edges.refused("append(127)", FULL_BUFFER, x -> x.append(127), Edges.ARGUMENT);
    }

    static void promise9AppendAgainAfterAFullBufferIsCleared() {
        Watched x = new Watched();
        FULL_BUFFER.make(x);
        x.clearBuffer();
        Edges.due("append(d)", x.append('d'), 1);
        Edges.due("append(1)", x.append('1'), 2);
        Edges.due("play", x.play(), 1);
    }

    static void promise9AppendAgainAfterAFullBufferIsPlayed() {
        Watched x = new Watched();
        FULL_BUFFER.make(x);
        x.play();
        Edges.due("append(d)", x.append('d'), 1);
    }

    static void promise9AppendSavesNoState() {
        Watched x = new Watched();
        x.append('c');
        Edges.due("saved states", x.count(8), 0);
        Edges.dueThrow("undo", x, y -> y.undo(), Edges.STATE);
    }

    // ---- 10: clearBuffer

    static void promise10ClearBufferOfAnEmptyOne() {
        Watched x = new Watched();
        Edges.due("clearBuffer", x.clearBuffer(), 0);
        Edges.due("clearBuffer", x.clearBuffer(), 0);
        Edges.due("append(c)", x.append('c'), 1);
    }

    static void promise10ClearBufferOfAFullOne() {
        Watched x = new Watched();
        FULL_BUFFER.make(x);
        Edges.due("clearBuffer", x.clearBuffer(), 60);
        Edges.due("clearBuffer", x.clearBuffer(), 0);
        Edges.due("firstError", x.firstError(), 0);
    }

    static void promise10ClearBufferOfOneCharacter() {
        Watched x = new Watched();
        x.append('~');
        Edges.due("clearBuffer", x.clearBuffer(), 1);
        Edges.due("firstError", x.firstError(), 0);
    }

    static void promise10ClearBufferAmidAPartAndBehindAnError() {
        Watched x = new Watched();
        Edges.append(x, "w1");
        x.clearBuffer();
        Edges.append(x, "00");
        Edges.due("a part begins anew", x.firstError(), 0);
        x.clearBuffer();
        Edges.due("the error is gone", Edges.play(x, "c0"), 1);
    }

    static void promise10ClearBufferSavesNoStateAndIsNotUndone() {
        Watched x = new Watched();
        x.set(6);
        Edges.append(x, "c0");
        x.clearBuffer();
        Edges.due("saved states", x.count(8), 1);
        x.undo();
        Edges.due("clearBuffer", x.clearBuffer(), 0);
    }

    // ---- 11: firstError

    static void promise11FirstErrorOfAnEmptyBufferIsZero() {
        dueFirstError("", 0);
    }

    /** Behind each beginning, all 94 characters: those that can follow, and those that are errors. */
    private static void dueFollowers(String begun, String followers) {
        for (char next = 33; next <= 126; next++) {
            boolean right = followers.indexOf(next) >= 0;
            dueFirstError(begun + next, begun.length() + (right ? 1 : 0));
        }
    }

    static void promise11FirstErrorWhereAPartBegins() {
        dueFollowers("", "cdwbl");
    }

    static void promise11FirstErrorWhereTheNextPartBegins() {
        for (String part : new String[] {"c0", "d2", "w000", "w499", "b3", "l0"}) {
            dueFollowers(part, "cdwbl");
        }
    }

    static void promise11FirstErrorBehindALetterForAClerk() {
        dueFollowers("c", "012");
        dueFollowers("d", "012");
    }

    static void promise11FirstErrorBehindALetterForAReader() {
        dueFollowers("b", "0123");
        dueFollowers("l", "0123");
    }

    static void promise11FirstErrorInAPartThatWrites() {
        dueFollowers("w", "01234");
        dueFollowers("w0", "0123456789");
        dueFollowers("w4", "0123456789");
        dueFollowers("w00", "0123456789");
        dueFollowers("w49", "0123456789");
    }

    static void promise11FirstErrorIsTheFirstOfSeveral() {
        dueFirstError("~~~", 0);
        dueFirstError("c0c3~c9", 3);
        dueFirstError("xc0d0", 0);
        dueFirstError("w5w5", 1);
    }

    static void promise11WhatIsRightBehindAnErrorDoesNotMendIt() {
        dueFirstError("c30c0", 1);
        dueFirstError("w0500c0", 4);
        dueFirstError("c!00", 1);
    }

    static void promise11FirstErrorOfPartsThatAreNotComplete() {
        dueFirstError("c", 1);
        dueFirstError("c0d", 3);
        dueFirstError("w", 1);
        dueFirstError("w4", 2);
        dueFirstError("w49", 3);
        dueFirstError("b3l", 3);
    }

    static void promise11FirstErrorOfAFullBufferIs60() {
        dueFirstError(FULL, 60);
        dueFirstError(Edges.repeated("w499", 15), 60);
    }

    static void promise11FirstErrorOfAFullBufferWhosePartGoesOnBeyondIt() {
        dueFirstError(Edges.repeated("c0", 29) + "w0", 60);
        dueFirstError("w000" + Edges.repeated("l3", 27) + "w0", 60);
    }

    static void promise11FirstErrorAtTheLastPlaceOfAFullBuffer() {
        dueFirstError(Edges.repeated("c0", 29) + "c3", 59);
        dueFirstError(Edges.repeated("c0", 29) + "cc", 59);
    }

    static void promise11FirstErrorAsksOnlyForTheSyntax() {
        dueFirstError("d0w000l0c0c0b1b1", 16);
    }

    static void promise11FirstErrorSavesNoStateAndLeavesTheBuffer() {
        Watched x = new Watched();
        Edges.append(x, "c0");
        x.firstError();
        Edges.due("firstError", x.firstError(), 2);
        Edges.due("saved states", x.count(8), 0);
        Edges.due("play", x.play(), 1);
    }

    // ---- 12: play

    static void promise12PlayRefusesAnEmptyBuffer() {
        playRefused("");
        Edges.refused("play", Edges.FULL_ROW, x -> x.play(), Edges.ARGUMENT);
    }

    static void promise12PlayRefusesASecondTime() {
        Edges.refused("play", x -> Edges.play(x, "c0"), x -> x.play(), Edges.ARGUMENT);
    }

    static void promise12PlayRefusesAPartThatIsNotComplete() {
        for (String text : new String[] {"c", "d", "w", "w0", "w09", "b", "l", "c0d", "c0w", "c0w1", "c0w12"}) {
            playRefused(text);
        }
        Edges.refused("play", Edges.RICH, x -> x.play(), Edges.ARGUMENT);
    }

    static void promise12PlayRefusesASyntaxError() {
        for (String text : new String[] {"x", "c3", "d3", "w500", "b4", "l4", "c0c3", "c0x", "C0", "c0,d0", "w0000"}) {
            playRefused(text);
        }
    }

    static void promise12PlayRefusesAnErrorWithRightPartsBehindIt() {
        playRefused("xc0");
        playRefused("c3c0");
        playRefused("c00d0");
    }

    static void promise12PlayRefusesAFullBufferThatIsNotComplete() {
        playRefused(Edges.repeated("c0", 29) + "w0");
        playRefused(Edges.repeated("c0", 29) + "c3");
    }

    static void promise12PlayDoesAllDeedsOfAFullBuffer() {
        Watched x = new Watched();
        Edges.due("play", Edges.play(x, Edges.repeated("c0d0", 15)), 30);
        Edges.due("the number", x.count(0), 30);
        Edges.due("clearBuffer", x.clearBuffer(), 0);
        Edges.due("saved states", x.count(8), 1);
        Edges.due("undo", x.undo(), 0);
        Edges.due("the number", x.count(0), 0);
    }

    static void promise12PlayOfOneDeed() {
        Watched x = new Watched();
        Edges.due("play", Edges.play(x, "c2"), 1);
        Edges.due("who chalks", x.count(1), 2);
    }

    static void promise12PlayTakesTheSmallestAndTheLargestOfEach() {
        Watched x = new Watched();
        Edges.due("play", Edges.play(x, "c0c2w000w499d0d2"), 6);
        Edges.dueNotice(x, 1, 0, 0, 0, 0, 99);
        Edges.dueClerk(x, 0, 0, -1, 1);
        Edges.dueClerk(x, 1, 0, -1, 0);
        Edges.dueClerk(x, 2, 0, -1, 1);
        Edges.due("play", Edges.play(x, "b0b3l0l3"), 4);
        int[] taken = {1, -1, -1, 1};
        for (int reader = 0; reader < 4; reader++) {
            Edges.due("values taken", x.readerOf(reader, 2), taken[reader]);
        }
    }

    static void promise12PlayWritesTheTwoDigitsInTheirOrder() {
        Watched x = new Watched();
        Edges.due("play", Edges.play(x, "c0w009w190w210w301w499"), 6);
        Edges.dueField(x, 9, 90, 10, 1, 99);
    }

    static void promise12PlayWithoutAPossibleDeedIsUndoableAndClearsTheBuffer() {
        String[] texts = {"d0", "w000", "l0", "d0c0", "w000c0", "l0b0"};
        for (String text : texts) {
            Watched x = new Watched();
            Edges.due("play of " + text, Edges.play(x, text), 0);
            Edges.due("saved states", x.count(8), 1);
            Edges.dueCounts(x, 0, -1, 0, 0, 0, 0, 0, 5, 1);
            Edges.due("clearBuffer", x.clearBuffer(), 0);
            Edges.due("undo", x.undo(), 0);
        }
    }

    /** The deeds before the impossible one stand, and those behind it are not done. */
    private static void dueStop(String before, int done, String impossible) {
        Watched x = new Watched();
        Watched twin = new Watched();
        Edges.due("play of " + before + impossible, Edges.play(x, before + impossible + "c1b2"), done);
        Edges.due("play of " + before, Edges.play(twin, before), done);
        Edges.dueSame("all looks behind " + before + impossible, Edges.allLooks(x), Edges.allLooks(twin));
    }

    static void promise12PlayStopsAtAClerkWhoChalksOrWaits() {
        dueStop("c0", 1, "c0");
        dueStop("c0c2", 2, "c2");
    }

    static void promise12PlayStopsAtAClerkWhoDoesNotChalk() {
        dueStop("c0", 1, "d1");
        dueStop("c0c2", 2, "d2");
        dueStop("c0d0", 2, "d0");
    }

    static void promise12PlayStopsAtWritingWhenNobodyChalks() {
        dueStop("c0w011d0", 3, "w022");
    }

    static void promise12PlayStopsAtAReaderWhoReads() {
        dueStop("b3", 1, "b3");
    }

    static void promise12PlayStopsAtAReaderWhoHasGivenUp() {
        dueStop("c0b3b3b3b3b3", 6, "b3");
        dueStop("c0b3b3b3b3b3d0", 7, "b3");
    }

    static void promise12PlayStopsAtALookOfAReaderWhoIsAway() {
        dueStop("c0b3", 2, "l3");
        dueStop("b0l0l0l0l0l0l0", 7, "l0");
    }

    static void promise12ATryThatFailsIsADeedThatIsDone() {
        Watched x = new Watched();
        Edges.due("play", Edges.play(x, "b1l1l1l1l1l1c0b0l1b1"), 10);
        Edges.dueReader(x, 0, 0, -1, -1, 1, 1, 0, -1, 1);
        Edges.dueReader(x, 1, 0, -1, -1, 2, 2, 0, -1, 1);
    }

    static void promise12ATryOfATextCountsHalves() {
        Watched x = new Watched();
        x.reader(0, false);
        Edges.due("play", Edges.play(x, "c0w011b0l0l0l0l0l0l0d0"), 10);
        Edges.due("halves", x.count(6), 1);
        Edges.dueHas(x, 0, 11, 0, 0, 0, 0);
    }

    static void promise12PlayWithAllStatesSavedDropsTheOldestOnce() {
        Watched x = new Watched();
        for (int value = 1; value <= 6; value++) {
            x.set(value);
        }
        Edges.play(x, "c0d0c0d0c0d0c0d0");
        Edges.due("saved states", x.count(8), 6);
        Edges.due("undo", x.undo(), 5);
        Edges.due("the number", x.count(0), 0);
        for (int left = 4; left >= 0; left--) {
            Edges.due("undo", x.undo(), left);
        }
        Edges.due("the setting of the oldest", x.count(7), 1);
    }

    static void promise12UndoOfPlayLeavesTheBufferEmpty() {
        Watched x = new Watched();
        Edges.play(x, "c0w011");
        Edges.append(x, "d");
        x.undo();
        Edges.due("field(0)", x.field(0), 0);
        Edges.due("the buffer of now", x.clearBuffer(), 1);
    }

    // ---- 13: undo

    static void promise13UndoRefusesWithoutASavedState() {
        Edges.refused("undo", Edges.NEW, x -> x.undo(), Edges.STATE);
        Edges.refused("undo", x -> Edges.append(x, "c0"), x -> x.undo(), Edges.STATE);
    }

    static void promise13UndoRefusesOnceMoreThanThereAreSavedStates() {
        Edges.refused("undo", x -> {
            x.come(0);
            x.undo();
        }, x -> x.undo(), Edges.STATE);
    }

    static void promise13UndoRefusesASeventhTime() {
        Edges.refused("undo", x -> {
            Edges.posts(x, 1, 5);
            for (int i = 0; i < 6; i++) {
                x.undo();
            }
        }, x -> x.undo(), Edges.STATE);
    }

    static void promise13SixStatesAreSaved() {
        Watched x = new Watched();
        for (int value = 1; value <= 6; value++) {
            x.set(value);
            Edges.due("saved states", x.count(8), value);
        }
        for (int left = 5; left >= 1; left--) {
            Edges.due("undo", x.undo(), left);
            Edges.due("the setting", x.count(7), left);
        }
        Edges.due("undo", x.undo(), 0);
        Edges.due("the first setting", x.count(7), 5);
    }

    static void promise13TheSeventhSavedStateDropsTheOldestOne() {
        Watched x = new Watched();
        for (int value = 11; value <= 17; value++) {
            x.set(value);
        }
        Edges.due("saved states", x.count(8), 6);
        for (int left = 5; left >= 0; left--) {
            Edges.due("undo", x.undo(), left);
            Edges.due("the setting", x.count(7), 11 + left);
        }
        Edges.dueThrow("undo", x, y -> y.undo(), Edges.STATE);
    }

    static void promise13SavedStatesGoRound() {
        Watched x = new Watched();
        for (int value = 1; value <= 9; value++) {
            x.set(value);
        }
        x.undo();
        x.undo();
        x.undo();
        Edges.due("the setting", x.count(7), 6);
        for (int value = 11; value <= 18; value++) {
            x.set(value);
        }
        Edges.due("saved states", x.count(8), 6);
        for (int left = 5; left >= 0; left--) {
            Edges.due("undo", x.undo(), left);
            Edges.due("the setting", x.count(7), 12 + left);
        }
        x.set(20);
        Edges.due("undo", x.undo(), 0);
        Edges.due("the setting", x.count(7), 12);
    }

    static void promise13UndoIsNotUndone() {
        Watched x = new Watched();
        x.set(6);
        x.set(7);
        Edges.due("undo", x.undo(), 1);
        Edges.due("undo", x.undo(), 0);
        Edges.due("the setting", x.count(7), 5);
    }

    static void promise13UndoLeavesTheBuffer() {
        Watched x = new Watched();
        x.set(6);
        Edges.append(x, "c0x");
        x.undo();
        Edges.due("firstError", x.firstError(), 2);
        Edges.due("clearBuffer", x.clearBuffer(), 3);
    }

    static void promise13ARefusedCallSavesNoState() {
        Watched x = new Watched();
        x.come(0);
        Edges.dueThrow("come(0)", x, y -> y.come(0), Edges.STATE);
        Edges.dueThrow("set(0)", x, y -> y.set(0), Edges.ARGUMENT);
        Edges.dueThrow("play", x, y -> y.play(), Edges.ARGUMENT);
        Edges.due("undo", x.undo(), 0);
        Edges.due("the number", x.count(0), 0);
    }

    static void promise13EachMethodThatIsMarkedUndoableSavesAState() {
        Watched x = new Watched();
        Edges.Call[] calls = {y -> y.come(0), y -> y.chalk(0, 0), y -> y.done(0), y -> y.reader(0, true),
            y -> y.begin(0), y -> y.look(0)};
        for (int i = 0; i < 6; i++) {
            calls[i].answer(x);
            Edges.due("saved states", x.count(8), i + 1);
        }
        x.undo();
        x.undo();
        x.set(5);
        Edges.due("saved states with set", x.count(8), 5);
        Edges.play(x, "d0");
        Edges.due("saved states with play", x.count(8), 6);
    }

    static void promise13NoOtherMethodSavesAState() {
        Watched x = new Watched();
        Edges.allLooks(x);
        Edges.append(x, "c0");
        x.clearBuffer();
        Edges.due("saved states", x.count(8), 0);
    }

    /** From a state in which there is something of everything, back to it, through one call. */
    private static void dueBack(String call, Edges.Call made) {
        Watched x = new Watched();
        Watched twin = new Watched();
        Edges.RICH.make(x);
        Edges.RICH.make(twin);
        made.answer(x);
        x.undo();
        Edges.dueSame("undo of " + call, Edges.undoableLooks(x), Edges.undoableLooks(twin));
        Edges.dueSame("what reader 3 takes", takenToTheEnd(x), takenToTheEnd(twin));
    }

    private static String takenToTheEnd(Watched x) {
        StringBuilder text = new StringBuilder();
        while (x.readerOf(3, 0) == 1) {
            text.append(x.look(3)).append(' ');
        }
        for (int field = 0; field < 5; field++) {
            text.append(x.has(3, field)).append(' ');
        }
        return text.toString();
    }

    static void promise13UndoRestoresAllThatAClerkChanges() {
        dueBack("come(1)", x -> x.come(1));
        dueBack("chalk(2, 88)", x -> x.chalk(2, 88));
        dueBack("done(2)", x -> x.done(2));
    }

    static void promise13UndoRestoresAllThatAReaderChanges() {
        dueBack("reader(3, true)", x -> x.reader(3, true));
        dueBack("begin(2)", x -> x.begin(2));
        dueBack("look(0)", x -> x.look(0));
        dueBack("look(3)", x -> x.look(3));
        dueBack("set(1)", x -> x.set(1));
    }

    /** Two tries of one reader in one text: what the first one noted and took is there again. */
    static void promise13UndoRestoresTheTryThatATextEnds() {
        dueBack("a try of reader 0", x -> {
            x.clearBuffer();
            return Edges.play(x, "l0l0l0l0d2d0b0l0l0l0");
        });
        dueBack("a try of reader 3", x -> {
            x.clearBuffer();
            return Edges.play(x, "l3l3l3d2w000w111b3l3l3l3l3");
        });
        Watched x = new Watched();
        x.begin(0);
        Edges.due("play", Edges.play(x, "l0l0l0l0l0l0c0d0b0"), 9);
        Edges.due("noted", x.readerOf(0, 1), 2);
        x.undo();
        Edges.due("noted before", x.readerOf(0, 1), 0);
        Edges.due("it would do well", x.ifRead(0), 1);
    }

    static void promise13UndoRestoresAllThatATextChanges() {
        dueBack("a whole text", x -> {
            x.clearBuffer();
            return Edges.play(x, "w066l3l3l3b3l3w077l0l0l0l0b1b2d2d0c1c0w111d1d0c2w222d2b2l2l3");
        });
    }
}

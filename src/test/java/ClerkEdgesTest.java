/** The edges that promises 2 to 4, 14 to 16 and 22 name: clerks, the board, its notices. */
public final class ClerkEdgesTest {
    /** The clerk 1 has been done, so the number is even again, and nobody chalks. */
    private static final Edges.Setup NOBODY_ANY_MORE = x -> {
        x.come(1);
        x.chalk(0, 3);
        x.done(1);
    };

    private static final Edges.Setup TWO_IN_THE_ROW = x -> {
        x.come(1);
        x.come(2);
    };

    public static void main(String[] args) {
        Edges.runAll(ClerkEdgesTest.class);
    }

    // ---- 2: come

    static void promise2ComeRefusesAClerkBelowZero() {
        Edges.refused("come(-1)", Edges.NEW, x -> x.come(-1), Edges.INDEX);
        Edges.refused("come(-1)", Edges.RICH, x -> x.come(-1), Edges.INDEX);
        Edges.refused("come(MIN)", Edges.NEW, x -> x.come(Integer.MIN_VALUE), Edges.INDEX);
    }

    static void promise2ComeRefusesAClerkAboveTwo() {
        Edges.refused("come(3)", Edges.NEW, x -> x.come(3), Edges.INDEX);
        Edges.refused("come(3)", Edges.RICH, x -> x.come(3), Edges.INDEX);
        Edges.refused("come(MAX)", Edges.NEW, x -> x.come(Integer.MAX_VALUE), Edges.INDEX);
    }

    static void promise2ComeTakesTheFirstClerk() {
        Watched x = new Watched();
        Edges.due("come(0)", x.come(0), 0);
        Edges.dueClerk(x, 0, 1, -1, 0);
        Edges.due("who chalks", x.count(1), 0);
    }

    static void promise2ComeTakesTheLastClerk() {
        Watched x = new Watched();
        Edges.due("come(2)", x.come(2), 0);
        Edges.dueClerk(x, 2, 1, -1, 0);
        Edges.due("who chalks", x.count(1), 2);
    }

    static void promise2ComeRefusesTheOneWhoChalks() {
        Edges.refused("come(0)", x -> x.come(0), x -> x.come(0), Edges.STATE);
        Edges.refused("come(2)", Edges.RICH, x -> x.come(2), Edges.STATE);
    }

    static void promise2ComeRefusesTheFirstOneWhoWaits() {
        Edges.refused("come(0)", Edges.FULL_ROW, x -> x.come(0), Edges.STATE);
        Edges.refused("come(0)", Edges.RICH, x -> x.come(0), Edges.STATE);
    }

    static void promise2ComeRefusesTheLastOneWhoWaits() {
        Edges.refused("come(1)", Edges.FULL_ROW, x -> x.come(1), Edges.STATE);
    }

    static void promise2ComeOfNoClerkToAFullRowNamesTheIndex() {
        Edges.refused("come(3)", Edges.FULL_ROW, x -> x.come(3), Edges.INDEX);
        Edges.refused("come(-1)", Edges.FULL_ROW, x -> x.come(-1), Edges.INDEX);
    }

    static void promise2ComeToAnEmptyRowMakesTheNumberOdd() {
        Watched x = new Watched();
        x.come(1);
        Edges.due("the number", x.count(0), 1);
        x.done(1);
        Edges.due("come(1)", x.come(1), 0);
        Edges.due("the number", x.count(0), 3);
    }

    static void promise2ComeToARowOfOneWaitsAndLeavesTheNumber() {
        Watched x = new Watched();
        x.come(1);
        Edges.due("come(0)", x.come(0), 1);
        Edges.due("the number", x.count(0), 1);
        Edges.due("who chalks", x.count(1), 1);
    }

    static void promise2ComeFillsTheRow() {
        Watched x = new Watched();
        TWO_IN_THE_ROW.make(x);
        Edges.due("come(0)", x.come(0), 2);
        Edges.due("the number", x.count(0), 1);
        Edges.due("who wait", x.count(2), 2);
        Edges.due("who chalks", x.count(1), 1);
    }

    static void promise2ComeAgainIsBehindAllOthers() {
        Watched x = new Watched();
        Edges.FULL_ROW.make(x);
        x.done(2);
        Edges.due("come(2)", x.come(2), 2);
        Edges.due("done(0)", x.done(0), 2);
        Edges.due("come(0)", x.come(0), 2);
        Edges.due("done(1)", x.done(1), 3);
        Edges.due("done(2)", x.done(2), 4);
        Edges.due("done(0)", x.done(0), 5);
        Edges.due("the number", x.count(0), 10);
    }

    static void promise2ComeIsUndoable() {
        Watched x = new Watched();
        x.come(0);
        x.come(1);
        Edges.due("saved states", x.count(8), 2);
        Edges.due("undo", x.undo(), 1);
        Edges.due("who wait", x.count(2), 0);
        Edges.due("undo", x.undo(), 0);
        Edges.due("the number", x.count(0), 0);
        Edges.due("come(1)", x.come(1), 0);
    }

    // ---- 3: chalk

    static void promise3ChalkRefusesAFieldBelowZero() {
        Edges.refused("chalk(-1, 0)", Edges.FULL_ROW, x -> x.chalk(-1, 0), Edges.INDEX);
        Edges.refused("chalk(-1, 0)", Edges.RICH, x -> x.chalk(-1, 0), Edges.INDEX);
        Edges.refused("chalk(MIN, 0)", Edges.FULL_ROW, x -> x.chalk(Integer.MIN_VALUE, 0), Edges.INDEX);
    }

    static void promise3ChalkRefusesAFieldAboveFour() {
        Edges.refused("chalk(5, 0)", Edges.FULL_ROW, x -> x.chalk(5, 0), Edges.INDEX);
        Edges.refused("chalk(5, 0)", Edges.RICH, x -> x.chalk(5, 0), Edges.INDEX);
        Edges.refused("chalk(MAX, 0)", Edges.FULL_ROW, x -> x.chalk(Integer.MAX_VALUE, 0), Edges.INDEX);
    }

    static void promise3ChalkTakesTheFirstField() {
        Watched x = new Watched();
        x.come(0);
        Edges.due("chalk(0, 7)", x.chalk(0, 7), 0);
        Edges.dueField(x, 7, 0, 0, 0, 0);
    }

    static void promise3ChalkTakesTheLastField() {
        Watched x = new Watched();
        x.come(0);
        Edges.due("chalk(4, 7)", x.chalk(4, 7), 0);
        Edges.dueField(x, 0, 0, 0, 0, 7);
    }

    static void promise3ChalkRefusesAValueBelowZero() {
        Edges.refused("chalk(0, -1)", Edges.FULL_ROW, x -> x.chalk(0, -1), Edges.ARGUMENT);
        Edges.refused("chalk(0, -1)", Edges.RICH, x -> x.chalk(0, -1), Edges.ARGUMENT);
        Edges.refused("chalk(4, MIN)", Edges.FULL_ROW, x -> x.chalk(4, Integer.MIN_VALUE), Edges.ARGUMENT);
    }

    static void promise3ChalkRefusesAValueAbove99() {
        Edges.refused("chalk(0, 100)", Edges.FULL_ROW, x -> x.chalk(0, 100), Edges.ARGUMENT);
        Edges.refused("chalk(0, 100)", Edges.RICH, x -> x.chalk(0, 100), Edges.ARGUMENT);
        Edges.refused("chalk(4, MAX)", Edges.FULL_ROW, x -> x.chalk(4, Integer.MAX_VALUE), Edges.ARGUMENT);
    }

    static void promise3ChalkTakesTheLargestAndTheSmallestValue() {
        Watched x = new Watched();
        x.come(0);
        Edges.due("chalk(2, 99)", x.chalk(2, 99), 0);
        Edges.dueField(x, 0, 0, 99, 0, 0);
        Edges.due("chalk(2, 0)", x.chalk(2, 0), 99);
        Edges.dueField(x, 0, 0, 0, 0, 0);
    }

    static void promise3ChalkIsRefusedWhenNobodyChalksYet() {
        Edges.refused("chalk(0, 0)", Edges.NEW, x -> x.chalk(0, 0), Edges.STATE);
        Edges.refused("chalk(4, 99)", Edges.NEW, x -> x.chalk(4, 99), Edges.STATE);
    }

    static void promise3ChalkIsRefusedWhenNobodyChalksAnyMore() {
        Edges.refused("chalk(0, 1)", NOBODY_ANY_MORE, x -> x.chalk(0, 1), Edges.STATE);
    }

    static void promise3ChalkNamesTheIndexBeforeTheArgument() {
        Edges.refused("chalk(5, 100)", Edges.FULL_ROW, x -> x.chalk(5, 100), Edges.INDEX);
        Edges.refused("chalk(-1, -1)", Edges.FULL_ROW, x -> x.chalk(-1, -1), Edges.INDEX);
    }

    static void promise3ChalkNamesTheIndexBeforeTheState() {
        Edges.refused("chalk(5, 0)", Edges.NEW, x -> x.chalk(5, 0), Edges.INDEX);
        Edges.refused("chalk(-1, 0)", NOBODY_ANY_MORE, x -> x.chalk(-1, 0), Edges.INDEX);
    }

    static void promise3ChalkNamesTheArgumentBeforeTheState() {
        Edges.refused("chalk(0, 100)", Edges.NEW, x -> x.chalk(0, 100), Edges.ARGUMENT);
        Edges.refused("chalk(0, -1)", NOBODY_ANY_MORE, x -> x.chalk(0, -1), Edges.ARGUMENT);
    }

    static void promise3ChalkNamesTheIndexBeforeBothOthers() {
        Edges.refused("chalk(5, 100)", Edges.NEW, x -> x.chalk(5, 100), Edges.INDEX);
        Edges.refused("chalk(-1, -1)", NOBODY_ANY_MORE, x -> x.chalk(-1, -1), Edges.INDEX);
    }

    static void promise3ChalkOfTheSameValueSavesAState() {
        Watched x = new Watched();
        x.come(0);
        x.chalk(3, 5);
        Edges.due("chalk(3, 5)", x.chalk(3, 5), 5);
        Edges.due("saved states", x.count(8), 3);
        Edges.due("undo", x.undo(), 2);
        Edges.due("field(3)", x.field(3), 5);
        x.undo();
        Edges.due("field(3)", x.field(3), 0);
    }

    static void promise3ChalkLeavesTheNumberAndTheLatestNotice() {
        Watched x = new Watched();
        NOBODY_ANY_MORE.make(x);
        x.come(0);
        x.chalk(0, 4);
        Edges.due("the number", x.count(0), 3);
        Edges.dueNotice(x, 1, 3, 0, 0, 0, 0);
        Edges.dueNotKept(x, 2);
    }

    // ---- 4: done

    static void promise4DoneRefusesAClerkBelowZero() {
        Edges.refused("done(-1)", Edges.NEW, x -> x.done(-1), Edges.INDEX);
        Edges.refused("done(-1)", Edges.RICH, x -> x.done(-1), Edges.INDEX);
        Edges.refused("done(MIN)", Edges.FULL_ROW, x -> x.done(Integer.MIN_VALUE), Edges.INDEX);
    }

    static void promise4DoneRefusesAClerkAboveTwo() {
        Edges.refused("done(3)", Edges.NEW, x -> x.done(3), Edges.INDEX);
        Edges.refused("done(3)", Edges.RICH, x -> x.done(3), Edges.INDEX);
        Edges.refused("done(MAX)", Edges.FULL_ROW, x -> x.done(Integer.MAX_VALUE), Edges.INDEX);
    }

    static void promise4DoneRefusesOneWhoIsAwayWhenNobodyChalks() {
        Edges.refused("done(0)", Edges.NEW, x -> x.done(0), Edges.STATE);
        Edges.refused("done(2)", Edges.NEW, x -> x.done(2), Edges.STATE);
    }

    static void promise4DoneRefusesOneWhoIsAwayWhenAnotherChalks() {
        Edges.refused("done(0)", TWO_IN_THE_ROW, x -> x.done(0), Edges.STATE);
        Edges.refused("done(1)", Edges.RICH, x -> x.done(1), Edges.STATE);
    }

    static void promise4DoneRefusesTheFirstOneWhoWaits() {
        Edges.refused("done(0)", Edges.FULL_ROW, x -> x.done(0), Edges.STATE);
        Edges.refused("done(0)", Edges.RICH, x -> x.done(0), Edges.STATE);
    }

    static void promise4DoneRefusesTheLastOneWhoWaits() {
        Edges.refused("done(1)", Edges.FULL_ROW, x -> x.done(1), Edges.STATE);
    }

    static void promise4DoneRefusesASecondTime() {
        Edges.refused("done(1)", NOBODY_ANY_MORE, x -> x.done(1), Edges.STATE);
    }

    static void promise4DoneOfTheOnlyOneLeavesTheNumberEven() {
        Watched x = new Watched();
        x.come(0);
        Edges.due("done(0)", x.done(0), 1);
        Edges.due("the number", x.count(0), 2);
        Edges.due("who chalks", x.count(1), -1);
        Edges.dueClerk(x, 0, 0, -1, 1);
    }

    static void promise4DoneWithOneWaitingHandsOverAtOnce() {
        Watched x = new Watched();
        TWO_IN_THE_ROW.make(x);
        x.chalk(4, 8);
        Edges.due("done(1)", x.done(1), 1);
        Edges.due("the number", x.count(0), 3);
        Edges.due("who chalks", x.count(1), 2);
        Edges.due("who wait", x.count(2), 0);
        Edges.dueNotice(x, 1, 0, 0, 0, 0, 8);
        Edges.due("chalk(4, 9)", x.chalk(4, 9), 8);
        Edges.dueNotice(x, 1, 0, 0, 0, 0, 8);
        Edges.due("done(2)", x.done(2), 2);
        Edges.due("the number", x.count(0), 4);
        Edges.dueNotice(x, 2, 0, 0, 0, 0, 9);
    }

    static void promise4DoneWithAFullRowHandsOverToTheFirst() {
        Watched x = new Watched();
        Edges.FULL_ROW.make(x);
        Edges.due("done(2)", x.done(2), 1);
        Edges.dueClerk(x, 0, 1, -1, 0);
        Edges.dueClerk(x, 1, 2, 0, 0);
        Edges.dueClerk(x, 2, 0, -1, 1);
        Edges.due("the number", x.count(0), 3);
    }

    static void promise4DoneWithNothingChalkedIsANoticeToo() {
        Watched x = new Watched();
        NOBODY_ANY_MORE.make(x);
        x.come(2);
        Edges.due("done(2)", x.done(2), 2);
        Edges.dueNotice(x, 2, 3, 0, 0, 0, 0);
    }

    static void promise4DoneIsUndoable() {
        Watched x = new Watched();
        Edges.FULL_ROW.make(x);
        x.done(2);
        Edges.due("saved states", x.count(8), 4);
        Edges.due("undo", x.undo(), 3);
        Edges.dueClerk(x, 0, 2, 0, 0);
        Edges.dueClerk(x, 1, 2, 1, 0);
        Edges.dueClerk(x, 2, 1, -1, 0);
        Edges.due("the number", x.count(0), 1);
        Edges.dueNotKept(x, 1);
    }

    // ---- 14: field

    static void promise14FieldRefusesAFieldBelowZero() {
        Edges.refused("field(-1)", Edges.NEW, x -> x.field(-1), Edges.INDEX);
        Edges.refused("field(-1)", Edges.RICH, x -> x.field(-1), Edges.INDEX);
        Edges.refused("field(MIN)", Edges.NEW, x -> x.field(Integer.MIN_VALUE), Edges.INDEX);
    }

    static void promise14FieldRefusesAFieldAboveFour() {
        Edges.refused("field(5)", Edges.NEW, x -> x.field(5), Edges.INDEX);
        Edges.refused("field(5)", Edges.RICH, x -> x.field(5), Edges.INDEX);
        Edges.refused("field(MAX)", Edges.NEW, x -> x.field(Integer.MAX_VALUE), Edges.INDEX);
    }

    static void promise14FieldOfTheFirstAndTheLastOne() {
        Watched x = new Watched();
        Edges.dueField(x, 0, 0, 0, 0, 0);
        x.come(0);
        x.chalk(0, 99);
        x.chalk(4, 1);
        Edges.dueField(x, 99, 0, 0, 0, 1);
        x.done(0);
        Edges.dueField(x, 99, 0, 0, 0, 1);
    }

    static void promise14FieldSavesNoState() {
        Watched x = new Watched();
        x.field(0);
        Edges.due("saved states", x.count(8), 0);
    }

    // ---- 15: notice

    static void promise15NoticeRefusesAFieldBelowZero() {
        Edges.refused("notice(0, -1)", Edges.NEW, x -> x.notice(0, -1), Edges.INDEX);
        Edges.refused("notice(17, -1)", Edges.RICH, x -> x.notice(17, -1), Edges.INDEX);
        Edges.refused("notice(0, MIN)", Edges.NEW, x -> x.notice(0, Integer.MIN_VALUE), Edges.INDEX);
    }

    static void promise15NoticeRefusesAFieldAboveFour() {
        Edges.refused("notice(0, 5)", Edges.NEW, x -> x.notice(0, 5), Edges.INDEX);
        Edges.refused("notice(17, 5)", Edges.RICH, x -> x.notice(17, 5), Edges.INDEX);
        Edges.refused("notice(0, MAX)", Edges.NEW, x -> x.notice(0, Integer.MAX_VALUE), Edges.INDEX);
    }

    static void promise15NoticeRefusesAFieldAlsoOfANoticeThatIsNotKept() {
        Edges.refused("notice(1, 5)", Edges.NEW, x -> x.notice(1, 5), Edges.INDEX);
        Edges.refused("notice(0, 5)", Edges.RICH, x -> x.notice(0, 5), Edges.INDEX);
        Edges.refused("notice(MAX, -1)", Edges.NEW, x -> x.notice(Integer.MAX_VALUE, -1), Edges.INDEX);
    }

    static void promise15NoticeRefusesANoticeBelowZero() {
        Edges.refused("notice(-1, 0)", Edges.NEW, x -> x.notice(-1, 0), Edges.ARGUMENT);
        Edges.refused("notice(-1, 4)", Edges.RICH, x -> x.notice(-1, 4), Edges.ARGUMENT);
        Edges.refused("notice(-16, 0)", Edges.NEW, x -> x.notice(-16, 0), Edges.ARGUMENT);
        Edges.refused("notice(MIN, 0)", Edges.NEW, x -> x.notice(Integer.MIN_VALUE, 0), Edges.ARGUMENT);
    }

    static void promise15NoticeNamesTheIndexBeforeTheArgument() {
        Edges.refused("notice(-1, 5)", Edges.NEW, x -> x.notice(-1, 5), Edges.INDEX);
        Edges.refused("notice(-1, -1)", Edges.RICH, x -> x.notice(-1, -1), Edges.INDEX);
    }

    static void promise15NoticeZeroIsThereAndTheNextOneIsNot() {
        Watched x = new Watched();
        Edges.dueNotice(x, 0, 0, 0, 0, 0, 0);
        Edges.dueNotKept(x, 1);
        x.come(0);
        x.chalk(0, 5);
        Edges.dueNotice(x, 0, 0, 0, 0, 0, 0);
        Edges.dueNotKept(x, 1);
        x.done(0);
        Edges.dueNotice(x, 1, 5, 0, 0, 0, 0);
        Edges.dueNotKept(x, 2);
    }

    static void promise15NoticeOfAllFieldsOfTheBoard() {
        Watched x = new Watched();
        Edges.play(x, "c0w011w122w233w344w499d0c0w055d0");
        Edges.dueNotice(x, 1, 11, 22, 33, 44, 99);
        Edges.dueNotice(x, 2, 55, 22, 33, 44, 99);
    }

    static void promise15SixteenNoticesAreAllKept() {
        Watched x = new Watched();
        Edges.posts(x, 1, 15);
        for (int notice = 0; notice <= 15; notice++) {
            Edges.dueNotice(x, notice, notice, 0, 0, 0, 0);
        }
        Edges.dueNotKept(x, 16);
    }

    static void promise15TheSeventeenthNoticeDropsTheOldestOne() {
        Watched x = new Watched();
        Edges.posts(x, 1, 16);
        Edges.dueNotKept(x, 0);
        for (int notice = 1; notice <= 16; notice++) {
            Edges.dueNotice(x, notice, notice, 0, 0, 0, 0);
        }
        Edges.dueNotKept(x, 17);
    }

    static void promise15ANoticeThatIsBeingChalkedDropsNone() {
        Watched x = new Watched();
        Edges.posts(x, 1, 15);
        x.come(0);
        x.chalk(0, 99);
        Edges.dueNotice(x, 0, 0, 0, 0, 0, 0);
        Edges.dueNotKept(x, 16);
        x.done(0);
        Edges.dueNotKept(x, 0);
        Edges.dueNotice(x, 16, 99, 0, 0, 0, 0);
    }

    static void promise15NoticesGoRoundMoreThanOnce() {
        Watched x = new Watched();
        Edges.posts(x, 1, 33);
        Edges.dueNotKept(x, 17);
        for (int notice = 18; notice <= 33; notice++) {
            Edges.dueNotice(x, notice, notice, 0, 0, 0, 0);
        }
        Edges.dueNotKept(x, 34);
    }

    static void promise15NoticesFarAheadAndFarBehindAreNotKept() {
        Watched x = new Watched();
        Edges.dueNotKept(x, 16);
        Edges.dueNotKept(x, Integer.MAX_VALUE);
        Edges.posts(x, 1, 20);
        Edges.dueNotKept(x, 4);
        Edges.dueNotKept(x, 36);
        Edges.dueNotKept(x, Integer.MAX_VALUE);
        Edges.dueNotKept(x, Integer.MAX_VALUE - 15);
    }

    static void promise15HandingOverKeepsTheNoticeInBetween() {
        Watched x = new Watched();
        Edges.FULL_ROW.make(x);
        x.chalk(0, 1);
        x.done(2);
        x.chalk(0, 2);
        x.done(0);
        Edges.dueNotice(x, 1, 1, 0, 0, 0, 0);
        Edges.dueNotice(x, 2, 2, 0, 0, 0, 0);
        Edges.dueNotKept(x, 3);
    }

    static void promise15UndoBringsBackTheNoticeThatWasDropped() {
        Watched x = new Watched();
        Edges.posts(x, 1, 15);
        x.come(0);
        x.chalk(0, 99);
        x.done(0);
        x.undo();
        Edges.dueNotice(x, 0, 0, 0, 0, 0, 0);
        Edges.dueNotKept(x, 16);
    }

    // ---- 16: clerk

    static void promise16ClerkRefusesAClerkBelowZero() {
        Edges.refused("clerk(-1, 0)", Edges.NEW, x -> x.clerk(-1, 0), Edges.INDEX);
        Edges.refused("clerk(-1, 2)", Edges.RICH, x -> x.clerk(-1, 2), Edges.INDEX);
        Edges.refused("clerk(MIN, 0)", Edges.NEW, x -> x.clerk(Integer.MIN_VALUE, 0), Edges.INDEX);
    }

    static void promise16ClerkRefusesAClerkAboveTwo() {
        Edges.refused("clerk(3, 0)", Edges.NEW, x -> x.clerk(3, 0), Edges.INDEX);
        Edges.refused("clerk(3, 2)", Edges.RICH, x -> x.clerk(3, 2), Edges.INDEX);
        Edges.refused("clerk(MAX, 0)", Edges.NEW, x -> x.clerk(Integer.MAX_VALUE, 0), Edges.INDEX);
    }

    static void promise16ClerkRefusesAWhatBelowZero() {
        Edges.refused("clerk(0, -1)", Edges.NEW, x -> x.clerk(0, -1), Edges.ARGUMENT);
        Edges.refused("clerk(2, -1)", Edges.RICH, x -> x.clerk(2, -1), Edges.ARGUMENT);
        Edges.refused("clerk(0, MIN)", Edges.NEW, x -> x.clerk(0, Integer.MIN_VALUE), Edges.ARGUMENT);
    }

    static void promise16ClerkRefusesAWhatAboveTwo() {
        Edges.refused("clerk(0, 3)", Edges.NEW, x -> x.clerk(0, 3), Edges.ARGUMENT);
        Edges.refused("clerk(2, 3)", Edges.RICH, x -> x.clerk(2, 3), Edges.ARGUMENT);
        Edges.refused("clerk(0, MAX)", Edges.NEW, x -> x.clerk(0, Integer.MAX_VALUE), Edges.ARGUMENT);
    }

    static void promise16ClerkNamesTheIndexBeforeTheArgument() {
        Edges.refused("clerk(3, 3)", Edges.NEW, x -> x.clerk(3, 3), Edges.INDEX);
        Edges.refused("clerk(-1, -1)", Edges.RICH, x -> x.clerk(-1, -1), Edges.INDEX);
    }

    static void promise16ClerkOfAnEmptyRow() {
        Watched x = new Watched();
        Edges.dueClerk(x, 0, 0, -1, 0);
        Edges.dueClerk(x, 1, 0, -1, 0);
        Edges.dueClerk(x, 2, 0, -1, 0);
    }

    static void promise16ClerkOfAFullRow() {
        Watched x = new Watched();
        Edges.FULL_ROW.make(x);
        Edges.dueClerk(x, 0, 2, 0, 0);
        Edges.dueClerk(x, 1, 2, 1, 0);
        Edges.dueClerk(x, 2, 1, -1, 0);
    }

    static void promise16ClerkOfARowThatGoesRound() {
        Watched x = new Watched();
        Edges.FULL_ROW.make(x);
        x.done(2);
        x.come(2);
        Edges.dueClerk(x, 0, 1, -1, 0);
        Edges.dueClerk(x, 1, 2, 0, 0);
        Edges.dueClerk(x, 2, 2, 1, 1);
        x.done(0);
        Edges.dueClerk(x, 0, 0, -1, 1);
        Edges.dueClerk(x, 1, 1, -1, 0);
        Edges.dueClerk(x, 2, 2, 0, 1);
    }

    static void promise16ClerkCountsHowOftenEachIsDone() {
        Watched x = new Watched();
        Edges.posts(x, 1, 20);
        x.come(2);
        Edges.dueClerk(x, 0, 0, -1, 20);
        Edges.dueClerk(x, 1, 0, -1, 0);
        Edges.dueClerk(x, 2, 1, -1, 0);
        x.done(2);
        Edges.dueClerk(x, 2, 0, -1, 1);
        x.undo();
        Edges.dueClerk(x, 2, 1, -1, 0);
    }

    // ---- 22: busy

    static void promise22BusyIsZeroWhenTheNumberIsEven() {
        Watched x = new Watched();
        Edges.due("busy of a new one", x.busy(), 0);
        NOBODY_ANY_MORE.make(x);
        Edges.due("busy again", x.busy(), 0);
    }

    static void promise22BusyOfOneWhoChalksAlone() {
        Watched x = new Watched();
        x.come(2);
        Edges.due("busy", x.busy(), 1);
    }

    static void promise22BusyOfAFullRowUntilItIsEmpty() {
        Watched x = new Watched();
        Edges.FULL_ROW.make(x);
        int[] row = {2, 0, 1};
        for (int i = 0; i < 3; i++) {
            Edges.due("busy", x.busy(), 3 - i);
            x.done(row[i]);
        }
        Edges.due("busy", x.busy(), 0);
    }
}

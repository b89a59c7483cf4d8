/** Promises 10 and 14 to 16 and "Corrections": a test for each sentence that names a boundary case. */
public final class EdgesOfCorrectionsTest extends Checks {
    public static void main(String[] args) throws ReflectiveOperationException {
        runTestsOf(EdgesOfCorrectionsTest.class);
    }

    /** Four lines and the corrections 0: "2 does not answer 1", 1: "2 answers 0", 2: "2 begins a thread". */
    private static ChatThreads threeCorrections() {
        ChatThreads x = fourLines();
        x.correct(2, 2, 1);
        x.correct(1, 2, 0);
        x.correct(0, 2, 0);
        return x;
    }

    /** Twelve corrections, the first of which is that line 0 begins a thread. */
    private static ChatThreads twelveCorrections() {
        ChatThreads x = fourLines();
        for (int line = 0; line < 4; line++) {
            x.correct(0, line, 0);
            for (int earlier = 0; earlier < line; earlier++) {
                x.correct(1, line, earlier);
            }
        }
        x.correct(2, 1, 0);
        x.correct(2, 2, 0);
        return x;
    }

    // ---- correct

    private static void correctIsOfKinds0To2() {
        range(Checks::fourLines, (x, v) -> x.correct(v, 1, 0), 0, 2);
    }

    private static void correctIsOfNumbersOfLines() {
        range(Checks::fourLines, (x, v) -> x.correct(0, v, 0), 0, 3);
        range(Checks::thirtyLines, (x, v) -> x.correct(0, v, 0), 0, 29);
        noneBeyond(Checks::fourLines, (x, v) -> x.correct(1, v, 0), 0, 3);
        noneBeyond(Checks::fourLines, (x, v) -> x.correct(2, v, 0), 0, 3);
    }

    private static void theEarlierOneIsANumberOfALine() {
        for (int kind = 1; kind <= 2; kind++) {
            int told = kind;
            range(Checks::fourLines, (x, v) -> x.correct(told, 3, v), 0, 3);
            due(fourLines().correct(kind, 3, 0), 1);
            due(fourLines().correct(kind, 3, 2), 1);
        }
    }

    /** "for the kind 0 it is not looked at, whatever it is, and not kept" */
    private static void ofTheKind0TheEarlierOneIsNotLookedAt() {
        for (int earlier : new int[] {Integer.MIN_VALUE, -1, 0, 1, 2, 3, 4, Integer.MAX_VALUE}) {
            ChatThreads x = fourLines();
            due(x.correct(0, 1, earlier), 1);
            dueEach(x, (y, what) -> y.correction(0, what), 0, 1, NOT_FOUND, 1);
            due(x.correct(0, 1, 0), NOT_POSSIBLE);
            due(x.correct(0, 1, -1), NOT_POSSIBLE);
        }
    }

    private static void ofTheKind0TheEarlierOneIsNotKept() {
        for (int earlier : new int[] {0, 2, 3}) {
            ChatThreads x = fourLines();
            x.correct(0, 1, earlier);
            due(x.drop(earlier), 1);
        }
    }

    private static void notPossibleIfTheEarlierOneIsNotEarlier() {
        for (int kind = 1; kind <= 2; kind++) {
            int told = kind;
            refused(Checks::fourLines, x -> x.correct(told, 0, 0), NOT_POSSIBLE);
            refused(Checks::fourLines, x -> x.correct(told, 3, 3), NOT_POSSIBLE);
            refused(Checks::fourLines, x -> x.correct(told, 0, 1), NOT_POSSIBLE);
            refused(Checks::fourLines, x -> x.correct(told, 2, 3), NOT_POSSIBLE);
        }
    }

    /** It goes by times, of equal times by numbers. */
    private static void whatIsEarlierGoesByTheOrder() {
        for (int kind = 1; kind <= 2; kind++) {
            ChatThreads x = new ChatThreads();
            x.line(8, 0, 0, 0);
            x.line(7, 1, 0, 0);
            x.line(8, 2, 0, 0);
            due(x.correct(kind, 1, 0), NOT_POSSIBLE);
            due(x.correct(kind, 0, 2), NOT_POSSIBLE);
            due(x.correct(kind, 0, 1), 1);
            due(x.correct(kind, 2, 0), 2);
            due(x.correct(kind, 2, 1), 3);
        }
    }

    private static void notPossibleIfThereIsOneJustLikeThis() {
        refused(EdgesOfCorrectionsTest::threeCorrections, x -> x.correct(2, 2, 1), NOT_POSSIBLE);
        refused(EdgesOfCorrectionsTest::threeCorrections, x -> x.correct(0, 2, 0), NOT_POSSIBLE);
        refused(EdgesOfCorrectionsTest::threeCorrections, x -> x.correct(0, 2, 3), NOT_POSSIBLE);
    }

    /** "(also one that does not count)" */
    private static void notPossibleIfOneJustLikeThisDoesNotCount() {
        due(threeCorrections().correction(1, 3), 0);
        refused(EdgesOfCorrectionsTest::threeCorrections, x -> x.correct(1, 2, 0), NOT_POSSIBLE);
    }

    private static void whatIsOnlyAlmostLikeAnotherOneIsPossible() {
        due(threeCorrections().correct(1, 2, 1), 4);
        due(threeCorrections().correct(2, 2, 0), 4);
        due(threeCorrections().correct(2, 3, 1), 4);
        due(threeCorrections().correct(1, 3, 0), 4);
        due(threeCorrections().correct(0, 1, 0), 4);
        due(threeCorrections().correct(0, 0, 0), 4);
    }

    private static void whatWasWithdrawnCanBeToldAgain() {
        ChatThreads x = threeCorrections();
        x.withdraw(1);
        due(x.correct(1, 2, 0), 3);
        dueEach(x, (y, n) -> y.correction(n, 0), 2, 0, 1);
        due(x.lineOf(2, 6), 0);
    }

    private static void correctAnswersHowManyThereAre() {
        ChatThreads x = thirtyLines();
        for (int n = 1; n <= 12; n++) {
            due(x.correct(1 + n % 2, 29, 29 - n), n);
            due(x.count(1), n);
        }
    }

    /** "There are at most 12 corrections" */
    private static void theThirteenthCorrectionIsTooMany() {
        due(twelveCorrections().count(1), 12);
        refused(EdgesOfCorrectionsTest::twelveCorrections, x -> x.correct(2, 3, 0), LIMIT);
        ChatThreads x = thirtyLines();
        for (int n = 0; n < 12; n++) {
            due(x.correct(0, n, 0), n + 1);
        }
        due(x.correct(0, 12, 0), LIMIT);
        due(x.correct(1, 12, 0), LIMIT);
        due(x.correct(2, 12, 0), LIMIT);
    }

    private static void afterOneIsWithdrawnThereIsRoomForOne() {
        ChatThreads x = twelveCorrections();
        due(x.withdraw(11), 11);
        due(x.correct(2, 3, 0), 12);
        due(x.correct(2, 3, 1), LIMIT);
        x.drop(0);
        due(x.count(1), 6);
        due(x.correct(2, 2, 0), 7);
    }

    private static void ofTheErrorsOfCorrectNotPossibleIsAheadOfTheLimit() {
        refused(EdgesOfCorrectionsTest::twelveCorrections, x -> x.correct(0, 0, 0), NOT_POSSIBLE);
        refused(EdgesOfCorrectionsTest::twelveCorrections, x -> x.correct(2, 1, 0), NOT_POSSIBLE);
        refused(EdgesOfCorrectionsTest::twelveCorrections, x -> x.correct(2, 0, 1), NOT_POSSIBLE);
        refused(EdgesOfCorrectionsTest::twelveCorrections, x -> x.correct(1, 3, 3), NOT_POSSIBLE);
    }

    private static void ofTheErrorsOfCorrectInvalidArgumentIsTheFirst() {
        refused(EdgesOfCorrectionsTest::twelveCorrections, x -> x.correct(3, 0, 0), INVALID);
        refused(EdgesOfCorrectionsTest::twelveCorrections, x -> x.correct(0, 4, 4), INVALID);
        refused(EdgesOfCorrectionsTest::twelveCorrections, x -> x.correct(1, 0, 4), INVALID);
        refused(EdgesOfCorrectionsTest::twelveCorrections, x -> x.correct(2, 3, -1), INVALID);
    }

    // ---- withdraw

    private static void withdrawIsOfNumbersOfCorrections() {
        range(EdgesOfCorrectionsTest::threeCorrections, (x, v) -> x.withdraw(v), 0, 2);
        range(EdgesOfCorrectionsTest::twelveCorrections, (x, v) -> x.withdraw(v), 0, 11);
        noneBeyond(Checks::fourLines, (x, v) -> x.withdraw(v), 0, -1);
    }

    /** "if one is withdrawn, the numbers of the later ones decrease by 1" */
    private static void theNumbersBehindAWithdrawnOneDecrease() {
        int[] kinds = {2, 1, 0};
        int[] earlier = {1, 0, NOT_FOUND};
        for (int withdrawn = 0; withdrawn < 3; withdrawn++) {
            ChatThreads x = threeCorrections();
            due(x.withdraw(withdrawn), 2);
            due(x.count(1), 2);
            for (int n = 0; n < 2; n++) {
                int was = n < withdrawn ? n : n + 1;
                due(x.correction(n, 0), kinds[was]);
                due(x.correction(n, 1), 2);
                due(x.correction(n, 2), earlier[was]);
            }
            due(x.correction(2, 0), INVALID);
        }
    }

    private static void theFirstAndLastOfTwelveCanBeWithdrawn() {
        ChatThreads x = twelveCorrections();
        due(x.withdraw(11), 11);
        due(x.withdraw(0), 10);
        due(x.correction(0, 1), 1);
        due(x.correction(9, 0), 2);
        due(x.correction(9, 1), 1);
        due(x.correction(10, 0), INVALID);
    }

    private static void allCanBeWithdrawn() {
        ChatThreads x = threeCorrections();
        due(x.withdraw(0), 2);
        due(x.withdraw(0), 1);
        due(x.withdraw(0), 0);
        due(x.withdraw(0), INVALID);
        due(x.count(5), 0);
    }

    // ---- correction

    private static void correctionIsOfNumbersOfCorrections() {
        range(EdgesOfCorrectionsTest::threeCorrections, (x, v) -> x.correction(v, 0), 0, 2);
        range(EdgesOfCorrectionsTest::twelveCorrections, (x, v) -> x.correction(v, 3), 0, 11);
        noneBeyond(Checks::fourLines, (x, v) -> x.correction(v, 0), 0, -1);
    }

    private static void correctionTells0To3() {
        range(EdgesOfCorrectionsTest::threeCorrections, (x, v) -> x.correction(0, v), 0, 3);
        noneBeyond(EdgesOfCorrectionsTest::threeCorrections, (x, v) -> x.correction(2, v), 0, 3);
    }

    /** "NOT_FOUND for 2 of the kind 0", and of no other kind. */
    private static void onlyTheKind0HasNoEarlierLine() {
        ChatThreads x = threeCorrections();
        due(x.correction(0, 2), 1);
        due(x.correction(1, 2), 0);
        due(x.correction(2, 2), NOT_FOUND);
    }

    /** "Of those of the kinds 0 and 1 about a line the latest one counts." */
    private static void theLatestOfTheKinds0And1Counts() {
        ChatThreads x = threeCorrections();
        due(x.correction(1, 3), 0);
        due(x.correction(2, 3), 1);
        due(x.lineOf(2, 6), NOT_FOUND);
        x.correct(1, 2, 1);
        due(x.correction(2, 3), 0);
        due(x.correction(3, 3), 1);
        due(x.lineOf(2, 6), 1);
        x.withdraw(3);
        x.withdraw(2);
        due(x.correction(1, 3), 1);
        due(x.lineOf(2, 6), 0);
    }

    private static void ofTwoOfTheKind1TheLatestCounts() {
        ChatThreads x = fourLines();
        x.correct(1, 3, 0);
        x.correct(1, 3, 2);
        x.correct(1, 3, 1);
        dueEach(x, (y, n) -> y.correction(n, 3), 0, 0, 1);
        due(x.lineOf(3, 6), 1);
    }

    /** What counts for a line is about it as the line that answers, not as the earlier one. */
    private static void correctionsOfOtherLinesDoNotStopOneFromCounting() {
        ChatThreads x = fourLines();
        x.correct(0, 1, 0);
        x.correct(1, 2, 1);
        x.correct(1, 3, 1);
        x.correct(2, 1, 0);
        dueEach(x, (y, n) -> y.correction(n, 3), 1, 1, 1, 0);
    }

    /** Lines 0 and 1 of equal scores (20) for line 2; that of line 3 for any is below 0. */
    private static ChatThreads oneChoiceOfTwo() {
        ChatThreads x = new ChatThreads();
        x.line(0, 0, 0, 3);
        x.line(1, 1, 0, 12);
        x.line(2, 2, 0, 15);
        x.line(100, 3, 0, 0);
        return x;
    }

    private static void theKind2TellsIfTheLineWouldAnswerThisOne() {
        ChatThreads x = oneChoiceOfTwo();
        x.correct(2, 2, 1);
        due(x.lineOf(2, 6), 0);
        due(x.correction(0, 3), 1);
    }

    private static void theKind2TellsIfTheLineAnswersNoneForIt() {
        ChatThreads x = oneChoiceOfTwo();
        x.correct(2, 2, 0);
        x.correct(2, 2, 1);
        due(x.lineOf(2, 6), NOT_FOUND);
        due(x.correction(0, 3), 1);
        due(x.correction(1, 3), 1);
    }

    private static void theKind2TellsNothingOfALineThatIsNotTheBest() {
        ChatThreads x = oneChoiceOfTwo();
        x.correct(2, 2, 0);
        due(x.lineOf(2, 6), 1);
        due(x.correction(0, 3), 0);
    }

    private static void theKind2TellsNothingBelowTheThreshold() {
        ChatThreads x = oneChoiceOfTwo();
        x.correct(2, 2, 1);
        x.set(1, 20);
        due(x.correction(0, 3), 1);
        x.set(1, 21);
        due(x.correction(0, 3), 0);
    }

    private static void theKind2TellsNothingBeyondTheWindow() {
        ChatThreads x = oneChoiceOfTwo();
        x.correct(2, 2, 1);
        x.set(0, 1);
        due(x.correction(0, 3), 1);
        x.set(0, 0);
        due(x.correction(0, 3), 0);
    }

    private static void theKind2TellsNothingIfTheLineBeginsAThreadByCorrection() {
        ChatThreads x = oneChoiceOfTwo();
        x.correct(2, 2, 1);
        x.correct(0, 2, 0);
        due(x.correction(0, 3), 0);
        x.withdraw(1);
        due(x.correction(0, 3), 1);
    }

    private static void theKind2TellsNothingIfTheLineAnswersByCorrection() {
        ChatThreads x = oneChoiceOfTwo();
        x.correct(2, 2, 1);
        x.correct(1, 2, 0);
        due(x.correction(0, 3), 0);
        x.correct(1, 2, 1);
        due(x.lineOf(2, 6), 1);
        due(x.correction(0, 3), 0);
    }

    // ---- "When a line is dropped, all corrections that name it are withdrawn."

    private static void correctionsAboutADroppedLineAreWithdrawn() {
        ChatThreads x = threeCorrections();
        due(x.drop(2), 0);
        due(x.count(1), 0);
    }

    private static void correctionsWithADroppedEarlierLineAreWithdrawn() {
        ChatThreads x = threeCorrections();
        due(x.drop(1), 2);
        dueEach(x, (y, n) -> y.correction(n, 0), 1, 0, INVALID);
        ChatThreads y = threeCorrections();
        due(y.drop(0), 2);
        dueEach(y, (z, n) -> z.correction(n, 0), 2, 0, INVALID);
    }

    private static void correctionsThatDoNotNameADroppedLineStay() {
        ChatThreads x = threeCorrections();
        due(x.drop(3), 3);
        due(x.correction(0, 1), 2);
    }

    private static void theLinesInCorrectionsAreRenumbered() {
        ChatThreads x = fourLines();
        x.correct(1, 3, 2);
        x.correct(2, 3, 1);
        x.correct(0, 3, 0);
        due(x.drop(0), 3);
        dueEach(x, (y, n) -> y.correction(n, 1), 2, 2, 2);
        dueEach(x, (y, n) -> y.correction(n, 2), 1, 0, NOT_FOUND);
        due(x.correct(1, 2, 1), NOT_POSSIBLE);
        due(x.correct(0, 2, 0), NOT_POSSIBLE);
    }

    private static void whenTheCountingOneIsWithdrawnWithALineTheFormerCounts() {
        ChatThreads x = fourLines();
        x.correct(1, 3, 0);
        x.correct(1, 3, 2);
        due(x.lineOf(3, 6), 2);
        due(x.drop(2), 1);
        due(x.lineOf(2, 6), 0);
        due(x.correction(0, 3), 1);
    }

    private static void twelveCorrectionsCanAllGoWithOneLine() {
        ChatThreads x = thirtyLines();
        for (int n = 0; n < 12; n++) {
            x.correct(1 + n % 2, 29, n);
        }
        due(x.count(1), 12);
        due(x.drop(29), 0);
        due(x.undo(), 3);
        due(x.count(1), 12);
    }

    // ---- reason: "the first of these reasons"

    private static void reasonIsOfNumbersOfLines() {
        range(Checks::fourLines, (x, v) -> x.reason(v, 0), 0, 3);
        range(Checks::fourLines, (x, v) -> x.reason(0, v), 0, 3);
        range(Checks::thirtyLines, (x, v) -> x.reason(v, 29), 0, 29);
    }

    private static void reason1TheOtherOneIsNotEarlier() {
        ChatThreads x = oneChoiceOfTwo();
        due(x.reason(2, 2), 1);
        due(x.reason(1, 2), 1);
        due(x.reason(0, 3), 1);
    }

    private static void reason1IsAheadOf2() {
        ChatThreads x = oneChoiceOfTwo();
        x.correct(0, 1, 0);
        due(x.reason(1, 2), 1);
        due(x.reason(1, 1), 1);
        due(x.reason(1, 0), 2);
    }

    private static void reason2TheLineBeginsAThreadByCorrection() {
        ChatThreads x = oneChoiceOfTwo();
        x.correct(0, 2, 0);
        due(x.reason(2, 0), 2);
        due(x.reason(2, 1), 2);
    }

    private static void reason2TheLineAnswersAThirdOneByCorrection() {
        ChatThreads x = oneChoiceOfTwo();
        x.correct(1, 2, 0);
        due(x.reason(2, 1), 2);
        due(x.reason(2, 0), 0);
    }

    private static void reason2IsNotForACorrectionThatDoesNotCount() {
        ChatThreads x = oneChoiceOfTwo();
        x.correct(0, 2, 0);
        x.correct(1, 2, 0);
        x.correct(1, 2, 1);
        due(x.reason(2, 1), 0);
        due(x.reason(2, 0), 2);
    }

    private static void reason2IsAheadOf3() {
        ChatThreads x = oneChoiceOfTwo();
        x.correct(2, 2, 1);
        x.correct(0, 2, 0);
        due(x.reason(2, 1), 2);
        x.correct(1, 2, 0);
        due(x.reason(2, 1), 2);
    }

    private static void reason3ThereIsACorrectionOfTheKind2AboutBoth() {
        ChatThreads x = oneChoiceOfTwo();
        x.correct(2, 2, 1);
        due(x.reason(2, 1), 3);
        due(x.reason(2, 0), 0);
    }

    private static void reason3IsNotIfOneOfTheKind1WithBothCounts() {
        ChatThreads x = oneChoiceOfTwo();
        x.correct(1, 2, 1);
        x.correct(2, 2, 1);
        due(x.reason(2, 1), 0);
        x.withdraw(0);
        due(x.reason(2, 1), 3);
    }

    private static void reason3IsAheadOf4And5() {
        ChatThreads x = oneChoiceOfTwo();
        x.correct(2, 2, 1);
        x.set(0, 0);
        due(x.reason(2, 1), 3);
        x.set(1, 200);
        due(x.reason(2, 1), 3);
        x.set(0, 600);
        due(x.reason(2, 1), 3);
    }

    private static void reason4TheGapIsGreaterThanTheWindow() {
        ChatThreads x = oneChoiceOfTwo();
        x.set(0, 1);
        due(x.reason(2, 1), 0);
        due(x.reason(2, 0), 4);
        x.set(0, 2);
        due(x.reason(2, 0), 6);
        x.set(0, 0);
        due(x.reason(2, 1), 4);
    }

    private static void reason4IsAheadOf5() {
        ChatThreads x = oneChoiceOfTwo();
        x.set(0, 97);
        due(x.reason(3, 2), 4);
        x.set(0, 98);
        due(x.reason(3, 2), 5);
    }

    private static void reason5TheScoreIsLessThanTheThreshold() {
        ChatThreads x = oneChoiceOfTwo();
        x.set(1, 20);
        due(x.reason(2, 1), 0);
        x.set(1, 21);
        due(x.reason(2, 1), 5);
        due(x.reason(2, 0), 5);
    }

    private static void reasons4And5AreNotIfACorrectionCounts() {
        ChatThreads x = oneChoiceOfTwo();
        x.correct(1, 3, 2);
        x.set(0, 0);
        x.set(1, 200);
        due(x.reason(3, 2), 0);
        due(x.reason(3, 1), 2);
        due(x.reason(3, 0), 2);
    }

    private static void reason6TheLineAnswersAThirdOne() {
        due(oneChoiceOfTwo().reason(2, 0), 6);
        due(oneChoiceOfTwo().reason(2, 1), 0);
    }

    private static void reason5IsAheadOf6() {
        ChatThreads x = oneChoiceOfTwo();
        x.line(2, 3, 0, 3);
        x.line(2, 4, 0, 3);
        due(x.reason(5, 4), 0);
        due(x.reason(5, 2), 6);
        due(x.reason(5, 1), 5);
    }
}

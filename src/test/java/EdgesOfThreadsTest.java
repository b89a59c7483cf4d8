/** Promises 17 to 25 and "Answers and threads": a test for each sentence that names a boundary case. */
public final class EdgesOfThreadsTest extends Checks {
    public static void main(String[] args) throws ReflectiveOperationException {
        runTestsOf(EdgesOfThreadsTest.class);
    }

    /** Line 1 shares two words (20) with line 0 and comes a gap after it. */
    private static ChatThreads twoLines(int gap) {
        ChatThreads x = new ChatThreads();
        x.set(6, 1000);
        x.line(0, 0, 0, 3);
        x.line(gap, 1, 0, 3);
        return x;
    }

    /** Line 0 scores 40 for line 2, line 1 scores 50, which speaks to the writers of both. */
    private static ChatThreads fortyAndFifty() {
        ChatThreads x = named();
        x.line(0, 0, 0, 0);
        x.line(5, 1, 0, 1);
        x.line(10, 3, 3, 1);
        x.set(7, 10);
        return x;
    }

    /** All lines are by one person, each answers the one ahead of it. */
    private static ChatThreads rowOfThirty() {
        ChatThreads x = thirtyLines();
        x.set(1, 15);
        return x;
    }

    // ---- answers

    private static void theGapIsAtMostTheWindow() {
        due(twoLines(600).lineOf(1, 6), 0);
        due(twoLines(601).lineOf(1, 6), NOT_FOUND);
    }

    private static void withAWindowOf0OnlyLinesOfOneTimeAreAnswered() {
        for (int gap = 0; gap <= 1; gap++) {
            ChatThreads x = twoLines(gap);
            x.set(0, 0);
            due(x.lineOf(1, 6), gap == 0 ? 0 : NOT_FOUND);
        }
    }

    private static void withTheGreatestWindowAllLinesAreNear() {
        ChatThreads x = twoLines(100000);
        x.set(0, 100000);
        x.set(4, 50);
        x.set(1, 0);
        due(x.lineOf(1, 6), 0);
        x.set(0, 99999);
        due(x.lineOf(1, 6), NOT_FOUND);
    }

    private static void theScoreIsAtLeastTheThreshold() {
        ChatThreads x = twoLines(5);
        due(x.lineOf(1, 6), 0);
        x.set(1, 21);
        due(x.lineOf(1, 6), NOT_FOUND);
        x.set(1, 19);
        due(x.lineOf(1, 6), 0);
    }

    private static void withAThresholdOf0AScoreOf0Answers() {
        ChatThreads x = new ChatThreads();
        x.set(1, 0);
        x.line(0, 0, 0, 0);
        x.line(29, 1, 0, 0);
        due(x.lineOf(1, 6), 0);
    }

    private static void aScoreBelow0AnswersNothing() {
        ChatThreads x = new ChatThreads();
        x.set(1, 0);
        x.line(0, 0, 0, 0);
        x.line(30, 1, 0, 0);
        due(x.score(1, 0), 99999);
        due(x.lineOf(1, 6), NOT_FOUND);
    }

    private static void withTheGreatestThresholdAScoreOf200Answers() {
        ChatThreads x = new ChatThreads();
        x.set(1, 200);
        x.set(4, 50);
        x.line(0, 0, 0, 15);
        x.line(29, 1, 0, 15);
        due(x.lineOf(1, 6), 0);
        x.set(6, 29);
        due(x.score(1, 0), 100199);
        due(x.lineOf(1, 6), NOT_FOUND);
    }

    private static void theLineOfTheGreatestScoreIsAnswered() {
        ChatThreads x = new ChatThreads();
        x.line(0, 0, 0, 3);
        x.line(0, 1, 0, 7);
        x.line(0, 2, 0, 48);
        x.line(0, 3, 0, 7);
        due(x.lineOf(3, 6), 1);
    }

    /** "of several the one that is latest in order": not that of the greatest number. */
    private static void ofEqualScoresTheLatestInOrderIsAnswered() {
        ChatThreads x = new ChatThreads();
        x.line(2, 0, 0, 3);
        x.line(1, 1, 0, 12);
        x.line(3, 2, 0, 15);
        due(x.lineOf(2, 6), 0);
        ChatThreads y = new ChatThreads();
        y.line(1, 0, 0, 3);
        y.line(1, 1, 0, 12);
        y.line(1, 2, 0, 15);
        due(y.lineOf(2, 6), 1);
    }

    private static void noLineAnswersALaterOneOrItself() {
        ChatThreads x = new ChatThreads();
        x.set(1, 0);
        x.line(7, 0, 0, 3);
        due(x.lineOf(0, 6), NOT_FOUND);
        x.line(7, 0, 0, 3);
        due(x.lineOf(0, 6), NOT_FOUND);
        due(x.lineOf(1, 6), 0);
        x.line(6, 0, 0, 3);
        due(x.lineOf(2, 6), NOT_FOUND);
        due(x.lineOf(0, 6), 2);
    }

    private static void theKind2KeepsALineFromThisOneOnly() {
        ChatThreads x = fortyAndFifty();
        due(x.lineOf(2, 6), 1);
        x.correct(2, 2, 1);
        due(x.lineOf(2, 6), 0);
        x.correct(2, 2, 0);
        due(x.lineOf(2, 6), NOT_FOUND);
        x.line(11, 4, 2, 0);
        due(x.lineOf(3, 6), 1);
    }

    /** "answers the line that is told in it, whatever else is so" */
    private static void theKind1GoesAheadOfAllElse() {
        ChatThreads x = twoLines(601);
        x.line(100000, 2, 0, 0);
        x.correct(1, 2, 0);
        due(x.lineOf(2, 6), 0);
        x.correct(2, 2, 0);
        x.set(0, 0);
        x.set(1, 200);
        due(x.lineOf(2, 6), 0);
        due(x.lineOf(2, 5), 0);
    }

    private static void theKind0GoesAheadOfAllElse() {
        ChatThreads x = twoLines(5);
        x.correct(0, 1, 0);
        x.set(1, 0);
        due(x.lineOf(1, 6), NOT_FOUND);
        due(x.count(2), 2);
    }

    // ---- threads that lines join

    /** "at most the margin less than that of its answer" */
    private static void theScoreIsAtMostTheMarginLess() {
        ChatThreads x = fortyAndFifty();
        due(x.lineOf(2, 6), 1);
        due(x.lineOf(2, 8), 1);
        due(x.count(2), 1);
        x.set(7, 9);
        due(x.lineOf(2, 8), 0);
        due(x.count(2), 2);
    }

    /** "(the same score, too)" */
    private static void withAMarginOf0TheSameScoreJoins() {
        ChatThreads x = meeting();
        x.set(7, 0);
        due(x.lineOf(3, 8), 2);
        ChatThreads y = fortyAndFifty();
        y.set(7, 0);
        y.set(4, 1);
        due(y.lineOf(2, 8), 0);
        y.set(4, 0);
        due(y.lineOf(2, 8), 1);
    }

    private static void withTheGreatestMarginAScore100LessJoins() {
        for (int time = 0; time <= 1; time++) {
            ChatThreads x = named();
            x.line(time, 0, 0, 0);
            x.line(30, 1, 0, 3);
            x.line(30, 3, 3, 3);
            x.set(4, 50);
            x.set(7, 100);
            due(x.score(2, 1), 100140);
            due(x.score(2, 0), 100039 + time);
            due(x.lineOf(2, 8), time);
        }
    }

    private static void onlyWhatIsAtLeastTheThresholdIsJoined() {
        ChatThreads x = fortyAndFifty();
        x.set(1, 40);
        due(x.lineOf(2, 8), 1);
        x.set(1, 41);
        due(x.lineOf(2, 6), 1);
        due(x.lineOf(2, 8), 0);
    }

    private static void onlyWhatIsInTheWindowIsJoined() {
        ChatThreads x = fortyAndFifty();
        x.set(0, 10);
        due(x.lineOf(2, 8), 1);
        x.set(0, 9);
        due(x.lineOf(2, 6), 1);
        due(x.lineOf(2, 8), 0);
    }

    private static void whatItDoesNotAnswerByCorrectionIsNotJoined() {
        ChatThreads x = fortyAndFifty();
        x.correct(2, 2, 0);
        due(x.lineOf(2, 6), 1);
        due(x.lineOf(2, 8), 0);
    }

    /** "If it answers this line not by a correction": even if it would answer it by its score. */
    private static void whatAnswersByCorrectionJoinsNothing() {
        ChatThreads x = fortyAndFifty();
        x.correct(1, 2, 1);
        due(x.lineOf(2, 6), 1);
        due(x.lineOf(2, 8), 0);
        due(x.count(2), 2);
    }

    private static void whatBeginsAThreadByCorrectionJoinsNothing() {
        ChatThreads x = fortyAndFifty();
        x.correct(0, 2, 0);
        due(x.lineOf(2, 8), 0);
        due(x.count(2), 3);
    }

    private static void onlyWhoAreSpokenToAreJoined() {
        // four words each (40) make both possible, and the margin is great enough for one name more
        for (int names = 0; names <= 3; names++) {
            ChatThreads x = named();
            x.line(0, 0, 0, 15);
            x.line(0, 1, 0, 240);
            x.line(10, 3, names, 255);
            x.set(7, 100);
            due(x.lineOf(2, 6), names == 1 ? 0 : 1);
            due(x.lineOf(2, 8), names == 3 ? 1 : 0);
        }
    }

    /** "the persons who wrote both (its answer and the other one), these are two" */
    private static void twoThreadsOfOnePersonAreNotJoined() {
        ChatThreads x = named();
        x.line(0, 0, 0, 0);
        x.line(0, 0, 0, 0);
        x.line(10, 3, 1, 0);
        due(x.score(2, 0), x.score(2, 1));
        due(x.lineOf(2, 6), 1);
        due(x.lineOf(2, 8), 0);
        due(x.count(2), 2);
    }

    private static void theWriterCanBeOneOfTheTwo() {
        ChatThreads x = named();
        x.set(5, 0);
        x.line(0, 3, 0, 0);
        x.line(0, 1, 0, 0);
        x.line(10, 3, 10, 0);
        due(x.lineOf(2, 6), 1);
        due(x.lineOf(2, 8), 1);
    }

    /** "and the threads are not one so far" */
    private static void whatIsInTheOwnThreadIsNotJoinedAgain() {
        ChatThreads x = fortyAndFifty();
        x.correct(1, 1, 0);
        due(x.lineOf(2, 8), 0);
        due(x.count(2), 1);
    }

    private static void aThreadIsJoinedOnceThoughTwoOfItsLinesAreAsGood() {
        ChatThreads x = meeting();
        due(x.lineOf(3, 8), 2);
        x.correct(1, 1, 0);
        due(x.lineOf(3, 6), 2);
        due(x.lineOf(3, 8), 1);
        due(x.count(2), 1);
    }

    /** "Threads that are joined are one from then on." */
    private static void laterLinesFindJoinedThreadsAsOne() {
        ChatThreads x = meeting();
        x.line(20, 4, 7, 0);
        due(x.lineOf(4, 6), 2);
        due(x.lineOf(4, 8), 0);
        x.line(20, 5, 1, 0);
        due(x.lineOf(5, 6), 0);
        due(x.lineOf(5, 5), 0);
        due(x.count(4), 2);
    }

    private static void oneLineJoinsElevenThreads() {
        ChatThreads x = new ChatThreads();
        for (int person = 0; person < 12; person++) {
            x.takes(person, person + 4, 0);
            x.line(0, person, 0, 0);
        }
        x.set(5, 0);
        x.line(0, 0, 65520, 0);
        due(x.lineOf(12, 6), 11);
        due(x.lineOf(12, 8), 11);
        due(x.count(2), 1);
        due(x.count(3), 12);
        due(x.count(4), 11);
        due(x.threadOf(0, 1), 4095);
    }

    /** The first line that was added is the last one in order here. */
    private static void lineZeroAnswersAndJoinsAsOthersDo() {
        ChatThreads x = named();
        x.line(30, 3, 3, 0);
        x.line(0, 0, 0, 0);
        x.line(0, 1, 0, 0);
        dueEach(x, (y, what) -> y.lineOf(0, what), 30, 3, 3, 0, 2, 0, 2, 0, 1, 3);
        due(x.count(4), 1);
        due(x.answers(3, 1), 1);
        due(x.partner(3), 1);
        due(x.parting(1, 2), 40);
        due(x.parting(0, 2), 40);
        due(x.lineOf(2, 7), 1);
    }

    /** "numbered from 0 in the order of their first lines" */
    private static void threadsAreNumberedByTheirFirstLinesInOrder() {
        ChatThreads x = new ChatThreads();
        x.line(30, 0, 0, 3);
        x.line(10, 1, 0, 0);
        x.line(20, 2, 0, 3);
        dueEach(x, (y, n) -> y.lineOf(n, 5), 1, 0, 1);
        dueEach(x, (y, n) -> y.threadOf(n, 2), 1, 2, INVALID);
    }

    private static void aJoinedThreadHasTheNumberOfItsFirstLine() {
        ChatThreads x = meeting();
        x.drop(3);
        x.line(10, 3, 5, 0);
        due(x.lineOf(3, 6), 2);
        dueEach(x, (y, n) -> y.lineOf(n, 5), 0, 1, 0, 0);
    }

    // ---- threadOf and lineIn

    private static void threadOfIsOfNumbersOfThreads() {
        range(Checks::fourLines, (x, v) -> x.threadOf(v, 0), 0, 3);
        range(Checks::thirtyLines, (x, v) -> x.threadOf(v, 6), 0, 29);
        range(EdgesOfThreadsTest::rowOfThirty, (x, v) -> x.threadOf(v, 0), 0, 0);
    }

    private static void threadOfTells0To6() {
        range(Checks::fourLines, (x, v) -> x.threadOf(0, v), 0, 6);
    }

    private static void whatThreadOfTellsOfOneLine() {
        ChatThreads x = new ChatThreads();
        x.line(700, 11, 0, 0);
        dueEach(x, (y, what) -> y.threadOf(0, what), 1, 2048, 0, 0, 0, 0, 1, INVALID);
    }

    private static void whatThreadOfTellsOfThirtyLines() {
        dueEach(rowOfThirty(), (x, what) -> x.threadOf(0, what), 30, 1, 0, 29, 29, 1, 30);
    }

    private static void theGreatestGapsInAThread() {
        ChatThreads x = new ChatThreads();
        x.line(100000, 1, 0, 0);
        x.line(0, 0, 0, 0);
        x.correct(1, 0, 1);
        dueEach(x, (y, what) -> y.threadOf(0, what), 2, 3, 1, 0, 100000, 100000, 2);
    }

    /** "two of its lines of which one follows the other in it": lines of other threads are passed over. */
    private static void theGapIsBetweenLinesOfTheThread() {
        ChatThreads x = new ChatThreads();
        x.line(0, 0, 0, 3);
        x.line(25, 1, 0, 0);
        x.line(50, 2, 0, 3);
        x.line(90, 3, 0, 0);
        x.set(6, 1000);
        dueEach(x, (y, what) -> y.threadOf(0, what), 2, 5, 0, 2, 50, 50, 2);
        due(x.count(2), 3);
    }

    private static void linesOfOneTimeHaveNoGap() {
        dueEach(twoLines(0), (x, what) -> x.threadOf(0, what), 2, 3, 0, 1, 0, 0, 2);
    }

    /** "each of which answers the one ahead": not each line of a thread is in one row. */
    private static void theLongestRowIsNotTheWholeThread() {
        ChatThreads x = meeting();
        due(x.threadOf(0, 0), 4);
        due(x.threadOf(0, 6), 2);
    }

    private static void theLongestRowIsOneOfTheThread() {
        ChatThreads x = fourLines();
        x.line(4, 5, 0, 0);
        x.correct(1, 2, 1);
        x.correct(1, 4, 2);
        x.correct(1, 3, 0);
        dueEach(x, (y, thread) -> y.threadOf(thread, 6), 2, 3, INVALID);
    }

    private static void lineInIsOfNumbersOfThreads() {
        range(Checks::fourLines, (x, v) -> x.lineIn(v, 0), 0, 3);
        range(Checks::thirtyLines, (x, v) -> x.lineIn(v, 0), 0, 29);
    }

    private static void lineInTakesNoNegativeIndex() {
        refused(Checks::fourLines, x -> x.lineIn(0, -1), INVALID);
        refused(Checks::fourLines, x -> x.lineIn(3, Integer.MIN_VALUE), INVALID);
    }

    private static void lineInFindsNoMoreThanThereAre() {
        due(rowOfThirty().lineIn(0, 0), 0);
        due(rowOfThirty().lineIn(0, 29), 29);
        refused(EdgesOfThreadsTest::rowOfThirty, x -> x.lineIn(0, 30), NOT_FOUND);
        refused(EdgesOfThreadsTest::rowOfThirty, x -> x.lineIn(0, Integer.MAX_VALUE), NOT_FOUND);
        refused(Checks::fourLines, x -> x.lineIn(0, 1), NOT_FOUND);
    }

    private static void ofTheErrorsOfLineInInvalidArgumentIsAheadOfNotFound() {
        refused(Checks::fourLines, x -> x.lineIn(4, 30), INVALID);
        refused(ChatThreads::new, x -> x.lineIn(0, 0), INVALID);
    }

    // ---- busiest

    private static void busiestTakesNoNegativeRank() {
        refused(Checks::fourLines, x -> x.busiest(-1), INVALID);
        refused(Checks::fourLines, x -> x.busiest(Integer.MIN_VALUE), INVALID);
        refused(ChatThreads::new, x -> x.busiest(-1), INVALID);
    }

    private static void busiestFindsNoMoreThanThereAre() {
        due(thirtyLines().busiest(29), 0);
        refused(Checks::thirtyLines, x -> x.busiest(30), NOT_FOUND);
        refused(Checks::thirtyLines, x -> x.busiest(Integer.MAX_VALUE), NOT_FOUND);
        due(rowOfThirty().busiest(0), 0);
        refused(EdgesOfThreadsTest::rowOfThirty, x -> x.busiest(1), NOT_FOUND);
        refused(ChatThreads::new, x -> x.busiest(0), NOT_FOUND);
    }

    private static void theThreadOfTheMostLinesIsFirst() {
        ChatThreads x = fourLines();
        x.correct(1, 2, 1);
        dueEach(x, (y, rank) -> y.busiest(rank), 1, 2, 0, NOT_FOUND);
    }

    /** "of equal ones that with the later last line in order first" */
    private static void ofEqualThreadsThatOfTheLaterLastLineIsFirst() {
        dueEach(fourLines(), (y, rank) -> y.busiest(rank), 3, 2, 1, 0);
        ChatThreads x = fourLines();
        x.correct(1, 3, 0);
        x.correct(1, 2, 1);
        dueEach(x, (y, rank) -> y.busiest(rank), 0, 1, NOT_FOUND);
    }

    private static void ofLastLinesOfOneTimeThatOfTheGreaterNumberIsLater() {
        ChatThreads x = new ChatThreads();
        x.line(5, 0, 0, 0);
        x.line(5, 1, 0, 0);
        x.line(4, 2, 0, 0);
        x.correct(1, 0, 2);
        dueEach(x, (y, rank) -> y.busiest(rank), 0, 1, NOT_FOUND);
        x.withdraw(0);
        dueEach(x, (y, rank) -> y.busiest(rank), 2, 1, 0, NOT_FOUND);
    }

    // ---- answers and partner

    private static void answersIsOfPersons0To11() {
        range(Checks::fourLines, (x, v) -> x.answers(v, 0), 0, 11);
        range(Checks::fourLines, (x, v) -> x.answers(0, v), 0, 11);
    }

    /** "perhaps the same" */
    private static void aPersonsAnswersToOneselfAreCounted() {
        due(rowOfThirty().answers(0, 0), 29);
        due(rowOfThirty().answers(0, 11), 0);
        due(thirtyLines().answers(0, 0), 0);
    }

    private static void answersGoOneWay() {
        ChatThreads x = new ChatThreads();
        x.line(0, 11, 0, 0);
        x.line(1, 0, 0, 0);
        x.correct(1, 1, 0);
        due(x.answers(0, 11), 1);
        due(x.answers(11, 0), 0);
    }

    private static void partnerIsOfPersons0To11() {
        range(Checks::fourLines, (x, v) -> x.partner(v), 0, 11);
    }

    /** "Returns the other one, of several the lowest" */
    private static void ofSeveralPartnersTheLowestIsTold() {
        ChatThreads x = new ChatThreads();
        x.line(0, 11, 0, 0);
        x.line(0, 0, 0, 0);
        x.line(1, 5, 0, 0);
        x.line(1, 5, 0, 0);
        x.line(1, 5, 0, 0);
        x.set(5, 0);
        x.correct(1, 2, 0);
        due(x.partner(5), 11);
        x.correct(1, 3, 1);
        due(x.partner(5), 0);
        x.correct(1, 4, 0);
        due(x.partner(5), 11);
    }

    private static void nobodyIsOnesOwnPartner() {
        refused(EdgesOfThreadsTest::rowOfThirty, x -> x.partner(0), NOT_FOUND);
        ChatThreads x = rowOfThirty();
        x.correct(1, 29, 0);
        due(x.partner(0), NOT_FOUND);
    }

    private static void whoAnswersNobodyHasNoPartner() {
        refused(Checks::fourLines, x -> x.partner(0), NOT_FOUND);
        due(meeting().partner(3), 2);
        due(meeting().partner(2), NOT_FOUND);
        due(meeting().partner(11), NOT_FOUND);
    }

    // ---- awake

    private static void awakeIsAtTimes0To100000() {
        range(Checks::fourLines, (x, v) -> x.awake(v), 0, 100000);
    }

    private static ChatThreads oneLineAt(int time, int window) {
        ChatThreads x = new ChatThreads();
        x.set(0, window);
        x.line(time, 0, 0, 0);
        return x;
    }

    /** "a line whose time is at most a time" */
    private static void aThreadIsNotAwakeAheadOfItsLine() {
        due(oneLineAt(50, 10).awake(49), 0);
        due(oneLineAt(50, 10).awake(50), 1);
        due(oneLineAt(0, 1).awake(0), 1);
        due(oneLineAt(100000, 1).awake(100000), 1);
    }

    /** "and greater than this time less the window" */
    private static void aThreadIsNotAwakeAWindowAfterItsLine() {
        due(oneLineAt(50, 10).awake(59), 1);
        due(oneLineAt(50, 10).awake(60), 0);
        due(oneLineAt(0, 100000).awake(99999), 1);
        due(oneLineAt(0, 100000).awake(100000), 0);
    }

    private static void withAWindowOf0NoThreadIsAwake() {
        due(oneLineAt(50, 0).awake(50), 0);
        due(oneLineAt(50, 1).awake(50), 1);
        due(oneLineAt(50, 1).awake(51), 0);
        due(oneLineAt(0, 0).awake(0), 0);
    }

    private static void threadsAreAwakeOnceHoweverManyLines() {
        due(rowOfThirty().awake(29), 1);
        due(thirtyLines().awake(29), 30);
        due(thirtyLines().awake(100000), 0);
        due(new ChatThreads().awake(0), 0);
    }

    // ---- threadsWith and threadsWithout

    private static void threadsWithIsOfSettings0To7() {
        range(Checks::fourLines, (x, v) -> x.threadsWith(v, 1), 0, 7);
    }

    private static void threadsWithHasTheRangesOfTheSettings() {
        int[] greatest = {100000, 200, 100, 100, 50, 100, 1000, 100};
        for (int what = 0; what <= 7; what++) {
            int setting = what;
            range(Checks::meeting, (x, v) -> x.threadsWith(setting, v), what == 6 ? 1 : 0, greatest[what]);
        }
    }

    private static void threadsWithTheLeastAndGreatestValues() {
        // line 3 (10 after the others) scores 40 for each of the lines 0 to 2
        int[] least = {4, 1, 4, 1, 1, 1, 1, 1};
        int[] greatest = {1, 4, 1, 1, 1, 1, 1, 1};
        int[] last = {100000, 200, 100, 100, 50, 100, 1000, 100};
        dueEach(meeting(), (x, what) -> x.threadsWith(what, what == 6 ? 1 : 0), least);
        dueEach(meeting(), (x, what) -> x.threadsWith(what, last[what]), greatest);
    }

    private static void threadsWithTheValueThatIsSet() {
        int[] first = {600, 20, 40, 25, 10, 15, 30, 5};
        dueEach(meeting(), (x, what) -> x.threadsWith(what, first[what]), 1, 1, 1, 1, 1, 1, 1, 1);
        dueEach(fourLines(), (x, what) -> x.threadsWith(what, first[what]), 4, 4, 4, 4, 4, 4, 4, 4);
    }

    private static void threadsWithKeepsCorrections() {
        ChatThreads x = fourLines();
        x.correct(1, 3, 0);
        x.correct(0, 2, 0);
        due(x.threadsWith(1, 200), 3);
        due(x.threadsWith(1, 0), 2);
    }

    private static void threadsWithoutIsOfNumbersOfLines() {
        range(Checks::fourLines, (x, v) -> x.threadsWithout(v), 0, 3);
        range(Checks::thirtyLines, (x, v) -> x.threadsWithout(v), 0, 29);
    }

    private static void threadsWithoutTheOnlyLine() {
        due(oneLineAt(0, 0).threadsWithout(0), 0);
    }

    private static void threadsWithoutALineThatJoinsThem() {
        dueEach(meeting(), (x, line) -> x.threadsWithout(line), 1, 1, 1, 3);
    }

    private static void threadsWithoutOneOfThirtyLines() {
        due(thirtyLines().threadsWithout(0), 29);
        due(thirtyLines().threadsWithout(29), 29);
        due(rowOfThirty().threadsWithout(0), 1);
        due(rowOfThirty().threadsWithout(15), 1);
        due(rowOfThirty().threadsWithout(29), 1);
    }

    /** As when it is dropped, all corrections that name it are gone. */
    private static void threadsWithoutTheCorrectionsOfTheLine() {
        ChatThreads x = fourLines();
        x.correct(1, 3, 0);
        x.correct(1, 3, 1);
        x.correct(0, 3, 0);
        dueEach(x, (y, line) -> y.threadsWithout(line), 3, 3, 3, 3);
        x.withdraw(2);
        // without line 1 line 3 answers line 0 again
        dueEach(x, (y, line) -> y.threadsWithout(line), 2, 2, 2, 3);
        x.withdraw(0);
        dueEach(x, (y, line) -> y.threadsWithout(line), 2, 3, 2, 3);
    }

    /** Line 2 speaks to the writer of line 0, who had the name then; line 1 comes too late for that. */
    private static void whatIfGoesByTheNamesAtTheirTimes() {
        ChatThreads x = new ChatThreads();
        x.takes(0, 5, 10);
        x.takes(0, 6, 20);
        x.takes(1, 5, 20);
        x.line(15, 0, 0, 0);
        x.line(25, 2, 32, 0);
        x.line(15, 3, 32, 0);
        due(x.count(2), 2);
        due(x.threadsWith(7, 0), 2);
        due(x.threadsWithout(1), 1);
        due(x.threadsWithout(2), 2);
        due(x.parting(0, 2), 41);
        due(x.parting(0, 1), 1);
    }

    // ---- parting

    private static void partingIsOfNumbersOfLines() {
        range(Checks::fourLines, (x, v) -> x.parting(v, v == 0 ? 1 : 0), 0, 3);
        range(Checks::fourLines, (x, v) -> x.parting(v == 0 ? 1 : 0, v), 0, 3);
        range(Checks::thirtyLines, (x, v) -> x.parting(v, v == 0 ? 1 : 0), 0, 29);
    }

    private static void partingIsOfTwoLines() {
        for (int line = 0; line < 4; line++) {
            int same = line;
            refused(Checks::fourLines, x -> x.parting(same, same), INVALID);
        }
    }

    private static void ofTheErrorsOfPartingInvalidArgumentIsAheadOfNotFound() {
        ChatThreads x = fourLines();
        x.correct(1, 1, 0);
        due(x.parting(0, 1), NOT_FOUND);
        due(x.parting(0, 0), INVALID);
        due(x.parting(0, 4), INVALID);
    }

    /** Line 1 has a score for line 0, by words, and words' weights. */
    private static ChatThreads scored(int weight, int words) {
        ChatThreads x = new ChatThreads();
        x.set(4, weight);
        x.line(0, 0, 0, (1 << words) - 1);
        x.line(29, 1, 0, (1 << words) - 1);
        return x;
    }

    private static void linesOfAScoreBelow0ArePartedWithTheLeastThreshold() {
        int[] fadings = {29, 14, 1};
        int[] below = {1, 2, 29};
        for (int i = 0; i < fadings.length; i++) {
            ChatThreads x = scored(0, 0);
            x.set(6, fadings[i]);
            due(x.score(1, 0), 100000 - below[i]);
            due(x.parting(0, 1), 0);
            due(x.parting(1, 0), 0);
        }
    }

    private static void linesOfAScoreOf0ArePartedWith1() {
        due(scored(0, 0).parting(0, 1), 1);
        due(scored(0, 0).parting(1, 0), 1);
    }

    private static void linesOfAScoreOf199ArePartedWithTheGreatestThreshold() {
        ChatThreads x = scored(50, 4);
        x.set(6, 29);
        due(x.score(1, 0), 100199);
        due(x.parting(0, 1), 200);
        due(x.parting(1, 0), 200);
    }

    /** "NOT_FOUND if there is none" */
    private static void linesOfAScoreOf200AreNotParted() {
        due(scored(50, 4).score(1, 0), 100200);
        refused(() -> scored(50, 4), x -> x.parting(0, 1), NOT_FOUND);
        refused(() -> scored(50, 16), x -> x.parting(1, 0), NOT_FOUND);
    }

    private static void linesInOneThreadByCorrectionAreNotParted() {
        ChatThreads x = fourLines();
        x.correct(1, 3, 0);
        due(x.parting(0, 3), NOT_FOUND);
        due(x.parting(3, 0), NOT_FOUND);
    }

    private static void linesThatACorrectionKeepsApartArePartedWith0() {
        ChatThreads x = twoLines(5);
        due(x.parting(0, 1), 21);
        x.correct(0, 1, 0);
        due(x.parting(0, 1), 0);
    }

    private static void linesBeyondTheWindowArePartedWith0() {
        due(twoLines(600).parting(0, 1), 21);
        due(twoLines(601).parting(0, 1), 0);
    }

    /** The threshold that is set says nothing of it. */
    private static void partingIsTheSameWhateverThresholdIsSet() {
        for (int threshold : new int[] {0, 20, 21, 200}) {
            ChatThreads x = twoLines(5);
            x.set(1, threshold);
            due(x.parting(0, 1), 21);
            due(x.count(11), threshold);
        }
    }

    private static void linesOfJoinedThreadsArePartedWhenTheJoiningEnds() {
        ChatThreads x = fortyAndFifty();
        due(x.parting(0, 1), 41);
        due(x.parting(0, 2), 41);
        due(x.parting(1, 2), 51);
        x.set(7, 9);
        due(x.parting(1, 2), 51);
        // line 1 answers line 0 by a score of 0
        due(x.parting(0, 2), 1);
    }

    private static void theFarEndsOfARowArePartedByItsLeastScore() {
        due(rowOfThirty().parting(0, 29), 16);
        due(rowOfThirty().parting(28, 29), 16);
        ChatThreads x = rowOfThirty();
        x.correct(1, 15, 14);
        due(x.parting(14, 15), NOT_FOUND);
        due(x.parting(0, 29), 16);
    }
}

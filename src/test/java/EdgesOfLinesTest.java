/** Promises 5 to 9, 11 and 12, "Lines" and "Scores": a test for each sentence that names a boundary case. */
public final class EdgesOfLinesTest extends Checks {
    private static final int[] FIRST = {600, 20, 40, 25, 10, 15, 30, 5};
    private static final int[] LEAST = {0, 0, 0, 0, 0, 0, 1, 0};
    private static final int[] GREATEST = {100000, 200, 100, 100, 50, 100, 1000, 100};

    public static void main(String[] args) throws ReflectiveOperationException {
        runTestsOf(EdgesOfLinesTest.class);
    }

    private static ChatThreads oneLine() {
        ChatThreads x = new ChatThreads();
        x.line(0, 0, 0, 0);
        return x;
    }

    // ---- line

    private static void lineIsAtTimes0To100000() {
        range(ChatThreads::new, (x, v) -> x.line(v, 0, 0, 0), 0, 100000);
    }

    private static void lineIsByPersons0To11() {
        range(ChatThreads::new, (x, v) -> x.line(0, v, 0, 0), 0, 11);
    }

    private static void lineSpeaksSetsOfNames0To65535() {
        range(ChatThreads::new, (x, v) -> x.line(0, 0, v, 0), 0, 65535);
    }

    private static void lineHasSetsOfWords0To65535() {
        range(ChatThreads::new, (x, v) -> x.line(0, 0, 0, v), 0, 65535);
    }

    private static void theGreatestAndLeastOfALineAreKept() {
        ChatThreads x = new ChatThreads();
        due(x.line(100000, 11, 65535, 65535), 0);
        due(x.line(0, 0, 0, 0), 1);
        dueEach(x, (y, what) -> y.lineOf(0, what), 100000, 11, 65535, 65535);
        dueEach(x, (y, what) -> y.lineOf(1, what), 0, 0, 0, 0);
    }

    /** "numbered from 0 in the order in which they were added", whatever their times. */
    private static void lineAnswersItsNumber() {
        ChatThreads x = new ChatThreads();
        for (int n = 0; n < 30; n++) {
            due(x.line(30 - n, n % 12, 0, 0), n);
            due(x.count(0), n + 1);
        }
        due(x.lineOf(0, 0), 30);
        due(x.lineOf(29, 0), 1);
    }

    /** "There are at most 30 lines" */
    private static void theThirtyFirstLineIsTooMany() {
        refused(Checks::thirtyLines, x -> x.line(30, 0, 0, 0), LIMIT);
        refused(Checks::thirtyLines, x -> x.line(0, 11, 65535, 65535), LIMIT);
    }

    private static void ofTheErrorsOfLineInvalidArgumentIsAheadOfTheLimit() {
        refused(Checks::thirtyLines, x -> x.line(-1, 0, 0, 0), INVALID);
        refused(Checks::thirtyLines, x -> x.line(0, 12, 0, 0), INVALID);
        refused(Checks::thirtyLines, x -> x.line(0, 0, 65536, 0), INVALID);
        refused(Checks::thirtyLines, x -> x.line(0, 0, 0, 65536), INVALID);
    }

    private static void afterADropOrAnUndoThereIsRoomForOneLine() {
        ChatThreads x = thirtyLines();
        x.drop(7);
        due(x.line(0, 0, 0, 0), 29);
        due(x.line(0, 0, 0, 0), LIMIT);
        x.undo();
        due(x.line(0, 0, 0, 0), 29);
        due(x.line(0, 0, 0, 0), LIMIT);
    }

    // ---- drop

    private static void dropIsOfNumbersOfLines() {
        range(Checks::fourLines, (x, v) -> x.drop(v), 0, 3);
        range(Checks::thirtyLines, (x, v) -> x.drop(v), 0, 29);
        range(EdgesOfLinesTest::oneLine, (x, v) -> x.drop(v), 0, 0);
    }

    /** "if one is dropped, the numbers of the later ones decrease by 1" */
    private static void theNumbersBehindADroppedLineDecrease() {
        for (int dropped = 0; dropped < 4; dropped++) {
            ChatThreads x = new ChatThreads();
            for (int n = 0; n < 4; n++) {
                x.line(n, n + 1, n + 2, 8 << n);
            }
            due(x.drop(dropped), 0);
            due(x.count(0), 3);
            for (int n = 0; n < 3; n++) {
                int was = n < dropped ? n : n + 1;
                dueEach(x, numbered(n), was, was + 1, was + 2, 8 << was, n, n, NOT_FOUND, 0, 0, 0);
                due(x.inOrder(n), n);
            }
            due(x.lineOf(3, 0), INVALID);
            due(x.inOrder(3), NOT_FOUND);
        }
    }

    private static Asked numbered(int line) {
        return (x, what) -> x.lineOf(line, what);
    }

    private static void aDropGivesTheOthersTheirPlacesAnew() {
        ChatThreads x = new ChatThreads();
        x.line(20, 0, 0, 0);
        x.line(10, 1, 0, 0);
        x.line(30, 2, 0, 0);
        dueEach(x, (y, n) -> y.lineOf(n, 4), 1, 0, 2);
        x.drop(1);
        dueEach(x, (y, n) -> y.lineOf(n, 4), 0, 1);
        x.undo();
        dueEach(x, (y, n) -> y.lineOf(n, 4), 1, 0, 2);
    }

    private static void theFirstAndLastOfThirtyLinesCanBeDropped() {
        ChatThreads x = thirtyLines();
        due(x.drop(29), 0);
        due(x.lineOf(28, 0), 28);
        due(x.drop(0), 0);
        due(x.lineOf(0, 0), 1);
        due(x.lineOf(27, 0), 28);
        due(x.lineOf(28, 0), INVALID);
    }

    private static void whenTheOnlyLineIsDroppedThereAreNone() {
        ChatThreads x = oneLine();
        due(x.drop(0), 0);
        due(x.count(0), 0);
        due(x.count(2), 0);
        due(x.inOrder(0), NOT_FOUND);
        due(x.lineOf(0, 0), INVALID);
        due(x.line(9, 0, 0, 0), 0);
    }

    // ---- lineOf and inOrder

    private static void lineOfIsOfNumbersOfLines() {
        range(Checks::fourLines, (x, v) -> x.lineOf(v, 0), 0, 3);
        range(Checks::thirtyLines, (x, v) -> x.lineOf(v, 9), 0, 29);
    }

    private static void lineOfTells0To9() {
        range(Checks::fourLines, (x, v) -> x.lineOf(0, v), 0, 9);
    }

    private static void whatLineOfTellsOfALineThatIsAlone() {
        ChatThreads x = new ChatThreads();
        x.line(5, 6, 7, 8);
        dueEach(x, (y, what) -> y.lineOf(0, what), 5, 6, 7, 8, 0, 0, NOT_FOUND, 0, 0, 0);
    }

    private static void theLastOfThirtyLinesHasPlaceAndThread29() {
        dueEach(thirtyLines(), (y, what) -> y.lineOf(29, what), 29, 0, 0, 0, 29, 29, NOT_FOUND, 0, 0, 0);
    }

    private static void twentyNineLinesAnswerOne() {
        ChatThreads x = named();
        x.set(5, 0);
        x.line(0, 0, 0, 0);
        for (int n = 1; n < 30; n++) {
            x.line(n, 1, 1, 0);
        }
        due(x.lineOf(0, 7), 29);
        due(x.lineOf(1, 7), 0);
        due(x.answers(1, 0), 29);
        due(x.threadOf(0, 0), 30);
        due(x.threadOf(0, 6), 2);
    }

    private static void inOrderTakesNoNegativeIndex() {
        refused(Checks::fourLines, x -> x.inOrder(-1), INVALID);
        refused(Checks::fourLines, x -> x.inOrder(Integer.MIN_VALUE), INVALID);
        refused(ChatThreads::new, x -> x.inOrder(-1), INVALID);
    }

    private static void inOrderFindsNoMoreThanThereAre() {
        due(fourLines().inOrder(0), 0);
        due(fourLines().inOrder(3), 3);
        refused(Checks::fourLines, x -> x.inOrder(4), NOT_FOUND);
        refused(Checks::fourLines, x -> x.inOrder(Integer.MAX_VALUE), NOT_FOUND);
        due(thirtyLines().inOrder(29), 29);
        refused(Checks::thirtyLines, x -> x.inOrder(30), NOT_FOUND);
    }

    /** "in order by times, of equal times by numbers" */
    private static void linesAreInOrderByTimes() {
        ChatThreads x = new ChatThreads();
        x.line(100000, 0, 0, 0);
        x.line(1, 0, 0, 0);
        x.line(0, 0, 0, 0);
        x.line(99999, 0, 0, 0);
        dueEach(x, (y, i) -> y.inOrder(i), 2, 1, 3, 0);
        dueEach(x, (y, n) -> y.lineOf(n, 4), 3, 1, 0, 2);
    }

    private static void linesOfEqualTimesAreInOrderByNumbers() {
        ChatThreads x = new ChatThreads();
        x.line(7, 0, 0, 0);
        x.line(6, 0, 0, 0);
        x.line(7, 0, 0, 0);
        x.line(6, 0, 0, 0);
        dueEach(x, (y, i) -> y.inOrder(i), 1, 3, 0, 2);
        x.drop(1);
        dueEach(x, (y, i) -> y.inOrder(i), 2, 0, 1);
    }

    private static void thirtyLinesAgainstTheirOrder() {
        ChatThreads x = new ChatThreads();
        for (int n = 0; n < 30; n++) {
            x.line(29 - n, 0, 0, 0);
        }
        for (int n = 0; n < 30; n++) {
            due(x.inOrder(n), 29 - n);
        }
    }

    // ---- whom a line speaks to

    /** "if a name is spoken in it that this person has at its time" */
    private static void aLineSpeaksToWhoHasTheNameAtItsTime() {
        ChatThreads x = new ChatThreads();
        x.takes(4, 2, 50);
        x.takes(4, 3, 60);
        x.takes(5, 2, 60);
        x.line(49, 0, 4, 0);
        x.line(50, 0, 4, 0);
        x.line(59, 0, 4, 0);
        x.line(60, 0, 4, 0);
        dueEach(x, (y, n) -> y.lineOf(n, 9), 0, 16, 16, 32);
    }

    private static void aLineSpeaksToNobodyWhoseNameItDoesNotSpeak() {
        ChatThreads x = named();
        x.takes(11, 15, 0);
        x.line(0, 0, 0, 65535);
        x.line(0, 0, 1, 0);
        x.line(0, 0, 32768, 0);
        x.line(0, 0, 30720, 0);
        x.line(0, 0, 65535, 0);
        dueEach(x, (y, n) -> y.lineOf(n, 9), 0, 1, 2048, 0, 4095);
    }

    private static void aFormerNameIsNotMeantThoughOthersTookNamesSince() {
        ChatThreads x = new ChatThreads();
        x.takes(4, 2, 50);
        x.takes(5, 1, 50);
        x.takes(4, 3, 50);
        x.line(50, 0, 4, 0);
        x.line(50, 0, 14, 0);
        dueEach(x, (y, n) -> y.lineOf(n, 9), 0, 48);
    }

    private static void aLineSpeaksToNobodyWhoHasNoName() {
        ChatThreads x = new ChatThreads();
        x.line(100000, 0, 65535, 0);
        due(x.lineOf(0, 9), 0);
        x.takes(11, 15, 100000);
        due(x.lineOf(0, 9), 2048);
    }

    private static void aLineCanSpeakToItsWriter() {
        ChatThreads x = named();
        x.line(0, 3, 8, 0);
        due(x.lineOf(0, 9), 8);
    }

    private static void aNameTakenAfterTheLineWasAddedCounts() {
        ChatThreads x = new ChatThreads();
        x.line(50, 0, 4, 0);
        due(x.lineOf(0, 9), 0);
        x.takes(3, 2, 50);
        due(x.lineOf(0, 9), 8);
        x.takes(3, 1, 50);
        due(x.lineOf(0, 9), 0);
        x.undo();
        due(x.lineOf(0, 9), 8);
    }

    // ---- scores

    private static void scoreIsOfNumbersOfLines() {
        range(Checks::fourLines, (x, v) -> x.score(v, 0), 0, 3);
        range(Checks::fourLines, (x, v) -> x.score(3, v), 0, 3);
        range(Checks::thirtyLines, (x, v) -> x.score(v, 0), 0, 29);
    }

    private static void noScoreIfTheOtherLineIsNotEarlier() {
        refused(Checks::fourLines, x -> x.score(0, 0), NOT_POSSIBLE);
        refused(Checks::fourLines, x -> x.score(3, 3), NOT_POSSIBLE);
        refused(Checks::fourLines, x -> x.score(0, 3), NOT_POSSIBLE);
        refused(Checks::fourLines, x -> x.score(2, 3), NOT_POSSIBLE);
        due(fourLines().score(3, 2), 100000);
    }

    private static void ofTheErrorsOfScoreInvalidArgumentIsTheFirst() {
        refused(Checks::fourLines, x -> x.score(0, 4), INVALID);
        refused(Checks::fourLines, x -> x.score(-1, 0), INVALID);
        refused(Checks::fourLines, x -> x.score(4, 4), INVALID);
    }

    /** "A line is earlier than another one if it is ahead of it in this order." */
    private static void ofLinesOfOneTimeThatOfTheLesserNumberIsEarlier() {
        ChatThreads x = new ChatThreads();
        x.line(7, 0, 0, 0);
        x.line(7, 1, 0, 0);
        x.line(6, 2, 0, 0);
        due(x.score(1, 0), 100000);
        due(x.score(0, 1), NOT_POSSIBLE);
        due(x.score(0, 2), 100000);
        due(x.score(2, 0), NOT_POSSIBLE);
        due(x.score(2, 1), NOT_POSSIBLE);
    }

    private static void theGreatestScoreIs1100() {
        ChatThreads x = named();
        for (int what = 2; what <= 5; what++) {
            x.set(what, GREATEST[what]);
        }
        x.line(0, 0, 1, 65535);
        x.line(0, 0, 1, 65535);
        due(x.score(1, 0), 101100);
    }

    private static void theLeastScoreIs100000Below0() {
        ChatThreads x = new ChatThreads();
        x.set(6, 1);
        x.line(0, 0, 0, 0);
        x.line(100000, 1, 0, 0);
        due(x.score(1, 0), 0);
    }

    /** Line 1 speaks to the writer of line 0, line 2 is called by it, 3 shares a word, 4 is by its writer. */
    private static ChatThreads oneReasonEach() {
        ChatThreads x = new ChatThreads();
        x.takes(0, 0, 0);
        x.takes(2, 2, 0);
        x.line(0, 0, 4, 32768);
        x.line(0, 1, 1, 1);
        x.line(0, 2, 0, 2);
        x.line(0, 3, 0, 32772);
        x.line(0, 0, 0, 8);
        return x;
    }

    private static void eachWeightCountsForItsReasonAlone() {
        ChatThreads x = oneReasonEach();
        dueEach(x, (y, n) -> y.score(n + 1, 0) - 100000, 40, 25, 10, 15);
        for (int what = 2; what <= 5; what++) {
            for (int value : new int[] {0, GREATEST[what]}) {
                ChatThreads y = oneReasonEach();
                y.set(what, value);
                for (int n = 1; n <= 4; n++) {
                    due(y.score(n, 0) - 100000, n == what - 1 ? value : FIRST[n + 1]);
                }
            }
        }
    }

    /** "the weight of a word for each word that both have" */
    private static void noWordToSixteenWordsCount() {
        ChatThreads x = new ChatThreads();
        x.line(0, 0, 0, 65535);
        for (int n = 0; n <= 16; n++) {
            x.line(0, 1, 0, (1 << n) - 1);
        }
        for (int n = 0; n <= 16; n++) {
            due(x.score(n + 1, 0), 100000 + 10 * n);
        }
        x.line(0, 2, 0, 0);
        due(x.score(18, 17), 100000);
        ChatThreads y = new ChatThreads();
        y.line(0, 0, 0, 0x5555);
        y.line(0, 1, 0, 0xAAAA);
        due(y.score(1, 0), 100000);
    }

    /** "(by the names at its own time)" */
    private static void aCallGoesByTheNamesAtTheEarlierTime() {
        ChatThreads x = new ChatThreads();
        x.line(49, 0, 4, 0);
        x.line(50, 0, 4, 0);
        x.line(60, 0, 4, 0);
        x.line(61, 1, 0, 0);
        x.takes(1, 2, 50);
        x.takes(1, 3, 60);
        dueEach(x, (y, n) -> y.score(3, n), 100000, 100025, 100000);
    }

    private static void aSpokenNameGoesByTheTimeOfTheLineThatSpeaks() {
        ChatThreads x = new ChatThreads();
        x.takes(1, 2, 50);
        x.takes(1, 3, 60);
        x.line(40, 1, 0, 0);
        x.line(49, 0, 4, 0);
        x.line(50, 0, 4, 0);
        x.line(59, 0, 4, 0);
        x.line(60, 0, 4, 0);
        dueEach(x, (y, n) -> y.score(n + 1, 0), 100000, 100040, 100040, 100000);
    }

    /** "divisions are rounded down" */
    private static void theFadingIsRoundedDown() {
        int[] gaps = {0, 29, 30, 31, 59, 60, 100000};
        int[] less = {0, 0, 1, 1, 1, 2, 3333};
        for (int i = 0; i < gaps.length; i++) {
            ChatThreads x = new ChatThreads();
            x.line(0, 0, 0, 0);
            x.line(gaps[i], 1, 0, 0);
            due(x.score(1, 0), 100000 - less[i]);
        }
    }

    private static void theLeastAndTheGreatestFading() {
        ChatThreads x = new ChatThreads();
        x.line(0, 0, 0, 0);
        x.line(999, 1, 0, 0);
        x.line(1000, 2, 0, 0);
        x.set(6, 1000);
        due(x.score(1, 0), 100000);
        due(x.score(2, 0), 99999);
        x.set(6, 1);
        due(x.score(1, 0), 99001);
        due(x.score(2, 1), 99999);
    }

    // ---- set and count

    private static void eachSettingHasItsRange() {
        for (int what = 0; what <= 7; what++) {
            int setting = what;
            range(ChatThreads::new, (x, v) -> x.set(setting, v), LEAST[what], GREATEST[what]);
        }
    }

    private static void setIsOfSettings0To7() {
        range(ChatThreads::new, (x, v) -> x.set(v, 1), 0, 7);
    }

    /** "set: Returns what it was" */
    private static void setAnswersTheFormerValue() {
        for (int what = 0; what <= 7; what++) {
            ChatThreads x = new ChatThreads();
            due(x.set(what, LEAST[what]), FIRST[what]);
            due(x.set(what, GREATEST[what]), LEAST[what]);
            due(x.set(what, GREATEST[what]), GREATEST[what]);
            for (int other = 0; other <= 7; other++) {
                due(x.count(10 + other), other == what ? GREATEST[what] : FIRST[other]);
            }
        }
    }

    private static void countTells0To8() {
        range(Checks::fourLines, (x, v) -> x.count(v), 0, 8);
    }

    private static void countTells10To17() {
        range(Checks::fourLines, (x, v) -> x.count(v), 10, 17);
    }

    private static void theGreatestCounts() {
        due(thirtyLines().count(0), 30);
        due(thirtyLines().count(2), 30);
        due(thirtyLines().count(3), 30);
        due(thirtyLines().count(7), 4);
        ChatThreads x = thirtyLines();
        for (int n = 0; n < 12; n++) {
            x.correct(0, n, 0);
        }
        due(x.count(1), 12);
        due(x.count(5), 12);
        for (int n = 0; n < 80; n++) {
            x.type(';');
        }
        due(x.count(8), 80);
    }

    /** "3: lines that begin a thread by themselves, though others may join it" */
    private static void beginningsAreCountedThoughThreadsAreJoined() {
        ChatThreads x = meeting();
        due(x.count(3), 3);
        due(x.count(2), 1);
        due(x.count(4), 2);
        x.set(1, 41);
        due(x.count(3), 4);
        due(x.count(2), 4);
        due(x.count(4), 0);
    }

    /** "5: lines whose answer or beginning is by a correction": once each, and not by the kind 2. */
    private static void linesAreCountedWhoseCorrectionsCount() {
        ChatThreads x = fourLines();
        x.correct(2, 3, 2);
        due(x.count(5), 0);
        x.correct(1, 3, 2);
        due(x.count(5), 1);
        x.correct(0, 3, 0);
        due(x.count(5), 1);
        x.correct(0, 0, 0);
        due(x.count(5), 2);
    }
}

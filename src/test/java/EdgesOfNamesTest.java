/** Promises 1 to 4 and "Persons and names": a test for each sentence that names a boundary case. */
public final class EdgesOfNamesTest extends Checks {
    public static void main(String[] args) throws ReflectiveOperationException {
        runTestsOf(EdgesOfNamesTest.class);
    }

    // ---- a new object

    private static void aNewObjectHasNoLines() {
        ChatThreads x = new ChatThreads();
        due(x.count(0), 0);
        due(x.inOrder(0), NOT_FOUND);
        due(x.lineOf(0, 0), INVALID);
        noneBeyond(ChatThreads::new, (y, v) -> y.drop(v), 0, -1);
    }

    private static void aNewObjectHasNoThreads() {
        ChatThreads x = new ChatThreads();
        due(x.count(2), 0);
        due(x.count(3), 0);
        due(x.count(4), 0);
        due(x.busiest(0), NOT_FOUND);
        due(x.threadOf(0, 0), INVALID);
        due(x.lineIn(0, 0), INVALID);
        due(x.awake(0), 0);
        due(x.awake(100000), 0);
        due(x.threadsWith(1, 0), 0);
    }

    private static void aNewObjectHasNoNames() {
        ChatThreads x = new ChatThreads();
        due(x.count(6), 0);
        for (int n = 0; n < 16; n++) {
            due(n < 12 ? x.nameOf(n, 0) : NOT_FOUND, NOT_FOUND);
            due(n < 12 ? x.nameOf(n, 100000) : NOT_FOUND, NOT_FOUND);
            due(x.whoHas(n, 0), NOT_FOUND);
            due(x.whoHas(n, 100000), NOT_FOUND);
        }
    }

    private static void aNewObjectHasNoCorrections() {
        ChatThreads x = new ChatThreads();
        due(x.count(1), 0);
        due(x.count(5), 0);
        due(x.correction(0, 0), INVALID);
        due(x.withdraw(0), INVALID);
    }

    private static void aNewObjectHasNoHistory() {
        ChatThreads x = new ChatThreads();
        due(x.count(7), 0);
        due(x.undo(), NOT_POSSIBLE);
    }

    private static void aNewObjectHasAnEmptyText() {
        ChatThreads x = new ChatThreads();
        due(x.count(8), 0);
        due(x.clearText(), 0);
        due(x.fault(0), NOT_FOUND);
        due(x.fault(1), NOT_FOUND);
    }

    private static void aNewObjectHasTheFirstSettings() {
        ChatThreads x = new ChatThreads();
        dueEach(x, (y, n) -> y.count(10 + n), 600, 20, 40, 25, 10, 15, 30, 5);
    }

    private static void objectsShareNothing() {
        ChatThreads x = new ChatThreads();
        x.takes(0, 0, 0);
        x.line(0, 0, 0, 0);
        x.set(6, 1000);
        x.type('l');
        due(sameNow(ChatThreads::new, ChatThreads::new), 0);
        due(x.count(0), 1);
        due(x.count(8), 1);
    }

    // ---- takes

    private static void takesIsOfPersons0To11() {
        range(ChatThreads::new, (x, v) -> x.takes(v, 0, 0), 0, 11);
    }

    private static void takesIsOfNames0To15() {
        range(ChatThreads::new, (x, v) -> x.takes(0, v, 0), 0, 15);
    }

    private static void takesIsAtTimes0To100000() {
        range(ChatThreads::new, (x, v) -> x.takes(0, 0, v), 0, 100000);
    }

    private static void everyPersonHasOneNameAndSomeNamesNobody() {
        ChatThreads x = new ChatThreads();
        for (int person = 0; person < 12; person++) {
            due(x.takes(person, 15 - person, 7), person + 1);
        }
        for (int person = 0; person < 12; person++) {
            due(x.nameOf(person, 7), 15 - person);
            due(x.whoHas(15 - person, 7), person);
        }
        for (int name = 0; name < 4; name++) {
            due(x.whoHas(name, 7), NOT_FOUND);
        }
    }

    /** "takes: Returns how often names were taken": of whatever persons and names. */
    private static void takesAreCountedFromOneToTwenty() {
        ChatThreads x = new ChatThreads();
        for (int n = 1; n <= 20; n++) {
            due(x.takes(n % 2, n % 2, n), n);
            due(x.count(6), n);
        }
    }

    private static ChatThreads twentyTakes() {
        ChatThreads x = new ChatThreads();
        for (int n = 0; n < 20; n++) {
            x.takes(n % 12, n % 12, 500);
        }
        return x;
    }

    /** "at most 20 times in all" */
    private static void theTwentyFirstTakeIsTooMany() {
        due(twentyTakes().count(6), 20);
        refused(EdgesOfNamesTest::twentyTakes, x -> x.takes(0, 0, 500), LIMIT);
        refused(EdgesOfNamesTest::twentyTakes, x -> x.takes(11, 15, 100000), LIMIT);
    }

    private static void afterAnUndoTheTwentiethNameCanBeTaken() {
        ChatThreads x = twentyTakes();
        x.undo();
        due(x.takes(0, 15, 500), 20);
        due(x.takes(0, 15, 500), LIMIT);
    }

    private static ChatThreads takenAt500() {
        ChatThreads x = new ChatThreads();
        x.takes(0, 0, 400);
        x.takes(1, 1, 500);
        return x;
    }

    /** "not ahead of the time at which one was taken last": whoever took it. */
    private static void noNameIsTakenAheadOfTheLastOne() {
        refused(EdgesOfNamesTest::takenAt500, x -> x.takes(1, 2, 499), NOT_POSSIBLE);
        refused(EdgesOfNamesTest::takenAt500, x -> x.takes(0, 2, 499), NOT_POSSIBLE);
        refused(EdgesOfNamesTest::takenAt500, x -> x.takes(2, 2, 499), NOT_POSSIBLE);
        refused(EdgesOfNamesTest::takenAt500, x -> x.takes(2, 2, 400), NOT_POSSIBLE);
        refused(EdgesOfNamesTest::takenAt500, x -> x.takes(2, 2, 0), NOT_POSSIBLE);
    }

    private static void aNameIsTakenAtTheTimeOfTheLastOne() {
        due(takenAt500().takes(2, 2, 500), 3);
        due(takenAt500().takes(0, 2, 500), 3);
        due(takenAt500().takes(1, 2, 501), 3);
    }

    private static void afterAnUndoTheTakeAheadIsTheLastOne() {
        ChatThreads x = takenAt500();
        x.undo();
        due(x.takes(2, 2, 399), NOT_POSSIBLE);
        due(x.takes(2, 2, 400), 2);
    }

    private static void afterATakeAtTheGreatestTimeOnlyThisTimeIsLeft() {
        ChatThreads x = new ChatThreads();
        due(x.takes(0, 0, 100000), 1);
        due(x.takes(1, 1, 99999), NOT_POSSIBLE);
        due(x.takes(1, 1, 100000), 2);
    }

    /** "A name that another person has at this time, by all names taken so far, cannot be taken" */
    private static void aNameOfAnotherPersonCannotBeTaken() {
        refused(EdgesOfNamesTest::takenAt500, x -> x.takes(2, 1, 500), NOT_POSSIBLE);
        refused(EdgesOfNamesTest::takenAt500, x -> x.takes(2, 0, 500), NOT_POSSIBLE);
        refused(EdgesOfNamesTest::takenAt500, x -> x.takes(11, 0, 100000), NOT_POSSIBLE);
        refused(EdgesOfNamesTest::takenAt500, x -> x.takes(0, 1, 500), NOT_POSSIBLE);
        refused(EdgesOfNamesTest::takenAt500, x -> x.takes(1, 0, 500), NOT_POSSIBLE);
    }

    private static void aNameThatAnotherLeavesAtThisTimeCanBeTaken() {
        ChatThreads x = takenAt500();
        due(x.takes(2, 0, 600), NOT_POSSIBLE);
        due(x.takes(0, 5, 600), 3);
        due(x.takes(2, 0, 600), 4);
        due(x.whoHas(0, 599), 0);
        due(x.whoHas(0, 600), 2);
        due(x.takes(0, 0, 600), NOT_POSSIBLE);
    }

    private static void twoPersonsChangeTheirNamesOverAThirdName() {
        ChatThreads x = takenAt500();
        due(x.takes(0, 9, 500), 3);
        due(x.takes(1, 0, 500), 4);
        due(x.takes(0, 1, 500), 5);
        due(x.nameOf(0, 500), 1);
        due(x.nameOf(1, 500), 0);
        due(x.nameOf(0, 499), 0);
        due(x.nameOf(1, 499), NOT_FOUND);
        due(x.whoHas(9, 500), NOT_FOUND);
    }

    private static void aNameWhoseTakingIsUndoneCanBeTaken() {
        ChatThreads x = takenAt500();
        x.undo();
        due(x.takes(2, 1, 500), 2);
    }

    /** "the name that the person has can be taken again": it counts as a take. */
    private static void theOwnNameCanBeTakenAgain() {
        ChatThreads x = takenAt500();
        due(x.takes(1, 1, 500), 3);
        due(x.takes(1, 1, 501), 4);
        due(x.takes(0, 0, 100000), 5);
        due(x.nameOf(1, 500), 1);
        due(x.nameOf(0, 450), 0);
        due(x.count(7), 4);
    }

    private static void theOwnNameCannotBeTakenAheadOfTheLastTake() {
        refused(EdgesOfNamesTest::takenAt500, x -> x.takes(1, 1, 499), NOT_POSSIBLE);
        refused(EdgesOfNamesTest::takenAt500, x -> x.takes(0, 0, 499), NOT_POSSIBLE);
    }

    private static void ofTheErrorsOfTakesInvalidArgumentIsTheFirst() {
        // each of these is not possible and too many as well
        refused(EdgesOfNamesTest::twentyTakes, x -> x.takes(12, 0, 499), INVALID);
        refused(EdgesOfNamesTest::twentyTakes, x -> x.takes(0, 16, 499), INVALID);
        refused(EdgesOfNamesTest::twentyTakes, x -> x.takes(0, 1, -1), INVALID);
        refused(EdgesOfNamesTest::twentyTakes, x -> x.takes(-1, 1, 500), INVALID);
    }

    private static void ofTheErrorsOfTakesNotPossibleIsAheadOfTheLimit() {
        refused(EdgesOfNamesTest::twentyTakes, x -> x.takes(0, 0, 499), NOT_POSSIBLE);
        refused(EdgesOfNamesTest::twentyTakes, x -> x.takes(0, 1, 500), NOT_POSSIBLE);
    }

    // ---- nameOf and whoHas

    private static ChatThreads person11HasName15() {
        ChatThreads x = new ChatThreads();
        x.takes(11, 15, 50);
        x.takes(0, 0, 50);
        return x;
    }

    private static void nameOfIsOfPersons0To11() {
        range(EdgesOfNamesTest::person11HasName15, (x, v) -> x.nameOf(v, 50), 0, 11);
    }

    private static void nameOfIsAtTimes0To100000() {
        range(EdgesOfNamesTest::person11HasName15, (x, v) -> x.nameOf(0, v), 0, 100000);
    }

    private static void whoHasIsOfNames0To15() {
        range(EdgesOfNamesTest::person11HasName15, (x, v) -> x.whoHas(v, 50), 0, 15);
    }

    private static void whoHasIsAtTimes0To100000() {
        range(EdgesOfNamesTest::person11HasName15, (x, v) -> x.whoHas(0, v), 0, 100000);
    }

    /** Nobody is asked about who has no name, so that NOT_FOUND would apply as well. */
    private static void invalidArgumentIsAheadOfNotFound() {
        ChatThreads x = new ChatThreads();
        due(x.nameOf(12, 0), INVALID);
        due(x.nameOf(0, 100001), INVALID);
        due(x.whoHas(16, 0), INVALID);
        due(x.whoHas(0, -1), INVALID);
    }

    /** "from this time on the person has it" */
    private static void aNameIsHadFromItsTimeOn() {
        ChatThreads x = person11HasName15();
        due(x.nameOf(11, 49), NOT_FOUND);
        due(x.nameOf(11, 50), 15);
        due(x.nameOf(11, 51), 15);
        due(x.nameOf(11, 100000), 15);
        due(x.whoHas(15, 49), NOT_FOUND);
        due(x.whoHas(15, 50), 11);
        due(x.whoHas(15, 100000), 11);
        due(x.nameOf(0, 50), 0);
        due(x.whoHas(0, 50), 0);
    }

    private static void aNameTakenAtTheLeastTimeIsHadAtAllTimes() {
        ChatThreads x = new ChatThreads();
        x.takes(3, 4, 0);
        due(x.nameOf(3, 0), 4);
        due(x.whoHas(4, 0), 3);
        due(x.nameOf(3, 100000), 4);
    }

    private static void aNameTakenAtTheGreatestTimeIsHadThenOnly() {
        ChatThreads x = new ChatThreads();
        x.takes(3, 4, 100000);
        due(x.nameOf(3, 99999), NOT_FOUND);
        due(x.nameOf(3, 100000), 4);
        due(x.whoHas(4, 99999), NOT_FOUND);
        due(x.whoHas(4, 100000), 3);
    }

    /** "and no other name" */
    private static void aLaterNameTakesThePlaceOfTheFormerOne() {
        ChatThreads x = person11HasName15();
        x.takes(11, 14, 60);
        due(x.nameOf(11, 59), 15);
        due(x.nameOf(11, 60), 14);
        due(x.whoHas(15, 59), 11);
        due(x.whoHas(15, 60), NOT_FOUND);
        due(x.whoHas(14, 59), NOT_FOUND);
        due(x.whoHas(14, 60), 11);
    }

    private static void ofTwoNamesTakenAtOneTimeTheLatterIsHad() {
        ChatThreads x = person11HasName15();
        x.takes(11, 14, 50);
        due(x.nameOf(11, 49), NOT_FOUND);
        due(x.nameOf(11, 50), 14);
        due(x.whoHas(15, 50), NOT_FOUND);
        due(x.whoHas(14, 50), 11);
    }

    private static void aFormerNameCanComeBack() {
        ChatThreads x = person11HasName15();
        x.takes(11, 14, 60);
        x.takes(11, 15, 70);
        due(x.whoHas(15, 59), 11);
        due(x.whoHas(15, 60), NOT_FOUND);
        due(x.whoHas(15, 69), NOT_FOUND);
        due(x.whoHas(15, 70), 11);
        due(x.nameOf(11, 65), 14);
    }

    /** "Until they take one, persons have no names.": also when others have. */
    private static void whoTookNoNameHasNone() {
        ChatThreads x = person11HasName15();
        for (int person = 1; person <= 10; person++) {
            due(x.nameOf(person, 100000), NOT_FOUND);
        }
        for (int name = 1; name <= 14; name++) {
            due(x.whoHas(name, 100000), NOT_FOUND);
        }
    }
}

import java.util.function.Supplier;

/** Promises 26 to 29 and "Texts": a test for each sentence that names a boundary case. */
public final class EdgesOfTextsTest extends Checks {
    private static final String LINE = "l0,0,0,0;";

    public static void main(String[] args) throws ReflectiveOperationException {
        runTestsOf(EdgesOfTextsTest.class);
    }

    private static Supplier<ChatThreads> typed(String text) {
        return () -> {
            ChatThreads x = new ChatThreads();
            enter(x, text);
            return x;
        };
    }

    /** The text has no fault, and load does so many entries. */
    private static void isPossible(String text, int entries) {
        due(faultOf(new ChatThreads(), text), NOT_FOUND);
        due(typed(text).get().load(), entries);
    }

    /** The text has this fault, and load is refused for it. */
    private static void isFaulty(String text, int position, int reason) {
        due(typed(text).get().fault(0), position);
        due(typed(text).get().fault(1), reason);
        refused(typed(text), ChatThreads::load, NOT_POSSIBLE);
    }

    // ---- type and clearText

    private static void typeIsOfCharacters32To126() {
        range(ChatThreads::new, (x, v) -> x.type(v), 32, 126);
        refused(ChatThreads::new, x -> x.type(65536 + 'l'), INVALID);
        refused(ChatThreads::new, x -> x.type('l' - 65536), INVALID);
    }

    private static void typeAnswersTheLength() {
        ChatThreads x = new ChatThreads();
        for (int length = 1; length <= 80; length++) {
            due(x.type(31 + length), length);
            due(x.count(8), length);
        }
    }

    /** "a text of at most 80 characters" */
    private static void theEightyFirstCharacterIsTooMany() {
        String full = "x".repeat(80);
        refused(typed(full), x -> x.type(32), LIMIT);
        refused(typed(full), x -> x.type(126), LIMIT);
        due(typed(full.substring(1)).get().type(';'), 80);
    }

    private static void ofTheErrorsOfTypeInvalidArgumentIsAheadOfTheLimit() {
        refused(typed("x".repeat(80)), x -> x.type(31), INVALID);
        refused(typed("x".repeat(80)), x -> x.type(127), INVALID);
    }

    private static void clearTextAnswersTheLengthThatItHad() {
        due(new ChatThreads().clearText(), 0);
        due(typed("x").get().clearText(), 1);
        ChatThreads x = typed("x".repeat(80)).get();
        due(x.clearText(), 80);
        due(x.count(8), 0);
        due(x.clearText(), 0);
        due(x.type('x'), 1);
    }

    private static void ofAClearedTextNothingIsLeft() {
        ChatThreads x = typed(LINE + "x").get();
        x.clearText();
        due(x.fault(0), NOT_FOUND);
        enter(x, "l1,2,3,4");
        due(x.fault(0), 0);
        due(x.type(';'), 9);
        due(x.fault(0), NOT_FOUND);
        due(x.load(), 1);
        dueEach(x, (y, what) -> y.lineOf(0, what), 1, 2, 3, 4);
    }

    // ---- fault

    private static void faultTells0And1() {
        range(typed("x"), (x, v) -> x.fault(v), 0, 1);
    }

    private static void ofTheErrorsOfFaultInvalidArgumentIsAheadOfNotFound() {
        refused(ChatThreads::new, x -> x.fault(-1), INVALID);
        refused(ChatThreads::new, x -> x.fault(2), INVALID);
    }

    /** "NOT_FOUND if the text has no fault (also if it is empty)" */
    private static void anEmptyTextHasNoFault() {
        refused(ChatThreads::new, x -> x.fault(0), NOT_FOUND);
        refused(ChatThreads::new, x -> x.fault(1), NOT_FOUND);
    }

    private static void aTextWithoutFaultHasNone() {
        refused(typed(LINE), x -> x.fault(0), NOT_FOUND);
        refused(typed(LINE), x -> x.fault(1), NOT_FOUND);
    }

    /** "entries, each followed by ";"": also the last one. */
    private static void theLastEntryIsFollowedByItsSemicolon() {
        isFaulty("l0,0,0,0", 0, 1);
        isFaulty(LINE + "b0", 9, 1);
        isFaulty(LINE + LINE + "a1,0", 18, 1);
        isFaulty(LINE + LINE + "n1,0", 18, 1);
        isPossible(LINE + LINE + "n1,0;", 3);
    }

    private static void anEntryIsNotEmpty() {
        isFaulty(";", 0, 1);
        isFaulty(LINE + ";", 9, 1);
        isFaulty(";" + LINE, 0, 1);
    }

    private static void anEntryBeginsWithOneOfFourLetters() {
        String[] letters = {"b", "an", "l"};
        String[] numbers = {"1;", "1,0;", "0,0,0,0;"};
        for (int letter = 32; letter <= 126; letter++) {
            for (int i = 0; i < 3; i++) {
                due(faultOf(new ChatThreads(), LINE + LINE + (char) letter + numbers[i]),
                    letters[i].indexOf(letter) >= 0 ? NOT_FOUND : 181);
            }
        }
    }

    private static void aLineHasFourNumbers() {
        isPossible("l0,0,0,0;", 1);
        isFaulty("l;", 0, 1);
        isFaulty("l0;", 0, 1);
        isFaulty("l0,0;", 0, 1);
        isFaulty("l0,0,0;", 0, 1);
        isFaulty("l0,0,0,0,0;", 0, 1);
        isFaulty("l0,0,0,;", 0, 1);
        isFaulty("l,0,0,0;", 0, 1);
    }

    private static void aBeginningHasOneNumber() {
        isPossible(LINE + "b0;", 2);
        isFaulty(LINE + "b;", 9, 1);
        isFaulty(LINE + "b0,0;", 9, 1);
        isFaulty(LINE + "b0,;", 9, 1);
    }

    private static void theOtherCorrectionsHaveTwoNumbers() {
        for (String letter : new String[] {"a", "n"}) {
            isPossible(LINE + LINE + letter + "1,0;", 3);
            isFaulty(LINE + LINE + letter + ";", 18, 1);
            isFaulty(LINE + LINE + letter + "1;", 18, 1);
            isFaulty(LINE + LINE + letter + "1,;", 18, 1);
            isFaulty(LINE + LINE + letter + ",0;", 18, 1);
            isFaulty(LINE + LINE + letter + "1,0,0;", 18, 1);
        }
    }

    private static void numbersAreOfDigitsAlone() {
        for (char sign : "/:+-. ".toCharArray()) {
            isFaulty("l" + sign + ",0,0,0;", 0, 1);
            isFaulty("l0,0,0," + sign + ";", 0, 1);
            isFaulty(LINE + "b" + sign + ";", 9, 1);
            isFaulty(LINE + "b" + sign + "0;", 9, 1);
            isFaulty(LINE + "b0" + sign + ";", 9, 1);
        }
        isPossible("l98765,4,32101,0;", 1);
    }

    /** "all numbers of 1 to 6 digits, zeros in front allowed" */
    private static void numbersHaveOneToSixDigits() {
        isPossible("l000000,000000,000000,000000;", 1);
        isFaulty("l0000000,0,0,0;", 0, 1);
        isFaulty("l0,0000000,0,0;", 0, 1);
        isFaulty("l0,0,0000000,0;", 0, 1);
        isFaulty("l0,0,0,0000000;", 0, 1);
        isPossible(LINE + "b000000;", 2);
        isFaulty(LINE + "b0000000;", 9, 1);
        isPossible(LINE + LINE + "a000001,000000;", 3);
        isFaulty(LINE + LINE + "a0000001,0;", 18, 1);
        isFaulty(LINE + LINE + "n1,0000000;", 18, 1);
    }

    private static void zerosInFrontChangeNoNumber() {
        ChatThreads x = typed("l000070,000008,000011,001000;").get();
        due(x.load(), 1);
        dueEach(x, (y, what) -> y.lineOf(0, what), 70, 8, 11, 1000);
    }

    private static void aTextOf80CharactersCanBePossible() {
        String eight = LINE.repeat(8);
        isPossible(eight + "b000000;", 9);
        isFaulty(eight + "b0000000", 72, 1);
        isFaulty(eight + "l0,0,0,0", 72, 1);
        isFaulty(eight + "b0;b1;b2", 78, 1);
        isPossible(eight.substring(9) + "b0;b1;b2;b3;", 11);
    }

    // ---- reason 2

    private static void theNumbersOfALineHaveItsRanges() {
        isPossible("l100000,0,0,0;", 1);
        isFaulty("l100001,0,0,0;", 0, 2);
        isFaulty("l999999,0,0,0;", 0, 2);
        isPossible("l0,11,0,0;", 1);
        isFaulty("l0,12,0,0;", 0, 2);
        isPossible("l0,0,65535,0;", 1);
        isFaulty("l0,0,65536,0;", 0, 2);
        isPossible("l0,0,0,65535;", 1);
        isFaulty("l0,0,0,65536;", 0, 2);
    }

    private static void thereIsNoSuchLine() {
        isFaulty("b0;", 0, 2);
        isFaulty("a0,0;", 0, 2);
        isFaulty("n0,0;", 0, 2);
        isFaulty(LINE + "b1;", 9, 2);
        isFaulty(LINE + LINE + "a2,0;", 18, 2);
        isFaulty(LINE + LINE + "a1,2;", 18, 2);
        isFaulty(LINE + LINE + "n2,0;", 18, 2);
        isFaulty(LINE + LINE + "n1,2;", 18, 2);
        isFaulty(LINE + "b999999;", 9, 2);
    }

    // ---- reason 3

    private static void theLatterLineIsNotEarlier() {
        for (String letter : new String[] {"a", "n"}) {
            isFaulty(LINE + LINE + letter + "0,0;", 18, 3);
            isFaulty(LINE + LINE + letter + "0,1;", 18, 3);
            isFaulty("l1,0,0,0;" + LINE + letter + "1,0;", 18, 3);
            isPossible("l1,0,0,0;" + LINE + letter + "0,1;", 3);
        }
    }

    private static void thereIsACorrectionJustLikeThis() {
        isFaulty(LINE + "b0;b0;", 12, 3);
        isFaulty(LINE + LINE + "a1,0;a1,0;", 23, 3);
        isFaulty(LINE + LINE + "n1,0;n1,0;", 23, 3);
        isPossible(LINE + LINE + "a1,0;n1,0;b1;b0;", 6);
        // it does not count any more, but is there
        isFaulty(LINE + LINE + "a1,0;b1;a1,0;", 26, 3);
    }

    private static ChatThreads lineZeroBegins() {
        ChatThreads x = fourLines();
        x.correct(0, 0, 0);
        return x;
    }

    private static void correctionsThatWereToldByCallsCountInTexts() {
        due(faultOf(lineZeroBegins(), "b0;"), 3);
        due(faultOf(lineZeroBegins(), "b1;b0;"), 33);
        due(faultOf(lineZeroBegins(), "b1;"), NOT_FOUND);
    }

    // ---- reason 4

    private static Supplier<ChatThreads> lines(int number) {
        return () -> {
            ChatThreads x = new ChatThreads();
            for (int n = 0; n < number; n++) {
                x.line(n, 0, 0, 0);
            }
            return x;
        };
    }

    private static void thereAreTooManyLines() {
        due(faultOf(lines(29).get(), LINE), NOT_FOUND);
        due(faultOf(lines(29).get(), LINE + LINE), 94);
        due(faultOf(lines(30).get(), LINE), 4);
        due(faultOf(lines(30).get(), "b0;a29,0;"), NOT_FOUND);
        due(faultOf(lines(22).get(), LINE.repeat(8)), NOT_FOUND);
        due(faultOf(lines(23).get(), LINE.repeat(8)), 634);
    }

    private static void thereAreTooManyCorrections() {
        due(faultOf(lines(30).get(), "b0;b1;b2;b3;b4;b5;b6;b7;b8;b9;b10;b11;"), NOT_FOUND);
        due(faultOf(lines(30).get(), "b0;b1;b2;b3;b4;b5;b6;b7;b8;b9;b10;b11;b12;"), 384);
        due(faultOf(lines(30).get(), "b0;b1;b2;b3;b4;b5;b6;b7;b8;b9;b10;b11;a1,0;"), 384);
        due(faultOf(lines(30).get(), "b0;b1;b2;b3;b4;b5;b6;b7;b8;b9;b10;b11;n1,0;"), 384);
        due(faultOf(lines(29).get(), "b0;b1;b2;b3;b4;b5;b6;b7;b8;b9;b10;b11;" + LINE), NOT_FOUND);
    }

    // ---- "its reason is the first of these"

    private static void reason1IsAheadOf2() {
        isFaulty("l100001,0,0,0", 0, 1);
        isFaulty("l100001,0,0;", 0, 1);
        isFaulty("b7", 0, 1);
        isFaulty("a7,8,9;", 0, 1);
    }

    private static void reason1IsAheadOf3And4() {
        isFaulty(LINE + "b0;b0", 12, 1);
        due(faultOf(lines(30).get(), "l0,0,0,0"), 1);
        due(faultOf(lines(30).get(), "l0,0,0,0:"), 1);
    }

    private static void reason2IsAheadOf3() {
        isFaulty(LINE + "a0,1;", 9, 2);
        isFaulty(LINE + "n1,1;", 9, 2);
    }

    private static void reason2IsAheadOf4() {
        due(faultOf(lines(30).get(), "l100001,0,0,0;"), 2);
        due(faultOf(lines(30).get(), "l0,12,0,0;"), 2);
        due(faultOf(lines(30).get(), "b0;b1;b2;b3;b4;b5;b6;b7;b8;b9;b10;b11;b30;"), 382);
        due(faultOf(lines(30).get(), "b0;b1;b2;b3;b4;b5;b6;b7;b8;b9;b10;b11;a1,30;"), 382);
    }

    private static void reason3IsAheadOf4() {
        due(faultOf(lines(30).get(), "b0;b1;b2;b3;b4;b5;b6;b7;b8;b9;b10;b11;b11;"), 383);
        due(faultOf(lines(30).get(), "b0;b1;b2;b3;b4;b5;b6;b7;b8;b9;b10;b11;a0,1;"), 383);
        due(faultOf(lines(30).get(), "b0;b1;b2;b3;b4;b5;b6;b7;b8;b9;b10;b11;n5,5;"), 383);
    }

    /** "of the first entry that is not possible", whatever is behind it. */
    private static void theFirstFaultIsTold() {
        isFaulty("x" + LINE + "b7;", 0, 1);
        isFaulty("b0;x", 0, 2);
        isFaulty(LINE + "b1;" + LINE + "x", 9, 2);
        isFaulty(LINE + "a0,0;l0", 9, 3);
    }

    /** "all this when the entries ahead of it are done" */
    private static void entriesFindWhatTheEntriesAheadDid() {
        isPossible(LINE + "b0;" + LINE + "a1,0;", 4);
        isFaulty("b0;" + LINE, 0, 2);
        isFaulty(LINE + "a1,0;" + LINE, 9, 2);
        ChatThreads x = fourLines();
        due(faultOf(x, LINE + "a1,4;b4;"), NOT_FOUND);
        due(faultOf(x, LINE + "a4,1;"), 93);
    }

    /** A text is looked at, not done, and what is told of it goes with the lines that there are. */
    private static void faultGoesByThePresentLines() {
        ChatThreads x = typed("b0;").get();
        due(x.fault(1), 2);
        x.line(0, 0, 0, 0);
        due(x.fault(1), NOT_FOUND);
        due(x.count(1), 0);
        x.correct(0, 0, 0);
        due(x.fault(1), 3);
        x.withdraw(0);
        due(x.fault(1), NOT_FOUND);
        x.drop(0);
        due(x.fault(1), 2);
    }

    // ---- load

    private static void loadOfAnEmptyTextAnswers0() {
        ChatThreads x = new ChatThreads();
        due(x.load(), 0);
        due(x.count(0), 0);
        due(x.count(7), 1);
    }

    /** "Does all entries of the text, which stays." */
    private static void theTextStays() {
        ChatThreads x = typed(LINE).get();
        due(x.load(), 1);
        due(x.count(8), 9);
        due(x.load(), 1);
        due(x.count(0), 2);
        due(x.count(8), 9);
        due(x.type('b'), 10);
        due(x.load(), NOT_POSSIBLE);
        due(x.count(8), 10);
        due(x.count(0), 2);
    }

    /** "Returns how many there are in it" */
    private static void loadAnswersHowManyEntriesThereAre() {
        for (int n = 0; n <= 8; n++) {
            ChatThreads x = typed(LINE.repeat(n)).get();
            due(x.load(), n);
            due(x.count(0), n);
        }
        ChatThreads x = lines(30).get();
        enter(x, "b0;b1;b2;b3;b4;b5;b6;b7;b8;b9;b10;b11;");
        due(x.load(), 12);
        due(x.count(1), 12);
    }

    /** "NOT_POSSIBLE if it has a fault": then no entry is done, not even one ahead of the fault. */
    private static void nothingIsDoneOfATextWithAFault() {
        isFaulty(LINE + LINE + "x", 18, 1);
        isFaulty(LINE + LINE + "b2;", 18, 2);
        isFaulty(LINE + LINE + "a0,1;", 18, 3);
        ChatThreads x = lines(29).get();
        enter(x, LINE + LINE);
        due(x.load(), NOT_POSSIBLE);
        due(x.count(0), 29);
        due(x.count(7), 4);
    }

    private static void loadDoesWhatTheCallsDo() {
        ChatThreads x = typed("l5,1,2,3;l4,11,65535,7;n0,1;a0,1;b1;").get();
        due(x.load(), 5);
        dueEach(x, (y, what) -> y.lineOf(0, what), 5, 1, 2, 3, 1, 0, 1, 0, 0, 0);
        dueEach(x, (y, what) -> y.lineOf(1, what), 4, 11, 65535, 7, 0, 0, NOT_FOUND, 1, 0, 0);
        dueEach(x, (y, what) -> y.correction(0, what), 2, 0, 1, 0);
        dueEach(x, (y, what) -> y.correction(1, what), 1, 0, 1, 1);
        dueEach(x, (y, what) -> y.correction(2, what), 0, 1, NOT_FOUND, 1);
    }
}

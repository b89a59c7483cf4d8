import java.util.function.Consumer;
import java.util.function.Supplier;

/** Promise 13 and "Changes and errors": a test for each sentence that names a boundary case. */
public final class EdgesOfChangesTest extends Checks {
    public static void main(String[] args) throws ReflectiveOperationException {
        runTestsOf(EdgesOfChangesTest.class);
    }

    /** Three states are in its history, so that one more is room for. */
    private static ChatThreads threeStates() {
        ChatThreads x = new ChatThreads();
        x.takes(0, 0, 0);
        x.line(0, 0, 0, 0);
        enter(x, "l1,0,0,0;b0;");
        x.load();
        x.clearText();
        enter(x, "l1,1,1,1;");
        return x;
    }

    private static ChatThreads done(Supplier<ChatThreads> made, Consumer<ChatThreads> calls) {
        ChatThreads x = made.get();
        calls.accept(x);
        return x;
    }

    /** The call is one change: it adds a state, and an undo leads back to all that was before it. */
    private static void isOneChange(Consumer<ChatThreads> call) {
        due(threeStates().count(7), 3);
        due(done(EdgesOfChangesTest::threeStates, call).count(7), 4);
        due(done(EdgesOfChangesTest::threeStates, call).undo(), 3);
        same(EdgesOfChangesTest::threeStates, () -> {
            ChatThreads x = done(EdgesOfChangesTest::threeStates, call);
            x.undo();
            return x;
        });
    }

    private static void isNoChange(Consumer<ChatThreads> call) {
        due(done(EdgesOfChangesTest::threeStates, call).count(7), 3);
    }

    // ---- "The changes are the calls of takes, line, drop, correct, withdraw, set and load"

    private static void takesIsAChange() {
        isOneChange(x -> x.takes(1, 1, 1));
        isOneChange(x -> x.takes(0, 0, 0));
    }

    private static void lineIsAChange() {
        isOneChange(x -> x.line(5, 0, 1, 1));
    }

    private static void dropIsAChange() {
        isOneChange(x -> x.drop(0));
    }

    private static void correctIsAChange() {
        isOneChange(x -> x.correct(0, 1, 0));
        isOneChange(x -> x.correct(1, 1, 0));
        isOneChange(x -> x.correct(2, 1, 0));
    }

    private static void withdrawIsAChange() {
        isOneChange(x -> x.withdraw(0));
    }

    private static void setIsAChange() {
        isOneChange(x -> x.set(0, 0));
    }

    private static void setOfTheSameValueIsAChange() {
        isOneChange(x -> x.set(0, 600));
    }

    private static void loadIsAChange() {
        isOneChange(x -> x.load());
    }

    /** "They are one change, also if there are none." */
    private static void loadOfNoEntriesIsAChange() {
        ChatThreads x = new ChatThreads();
        due(x.load(), 0);
        due(x.count(7), 1);
        due(x.undo(), 0);
    }

    /** Of a load of several entries nothing is left by one undo. */
    private static void loadOfSeveralEntriesIsOneChange() {
        ChatThreads x = new ChatThreads();
        enter(x, "l0,0,0,0;l0,0,0,0;a1,0;b0;");
        due(x.load(), 4);
        due(x.count(7), 1);
        due(x.undo(), 0);
        due(x.count(0), 0);
        due(x.count(1), 0);
    }

    private static void questionsAreNoChanges() {
        isNoChange(x -> x.nameOf(0, 0));
        isNoChange(x -> x.whoHas(0, 0));
        isNoChange(x -> x.lineOf(0, 5));
        isNoChange(x -> x.inOrder(0));
        isNoChange(x -> x.score(0, 0));
        isNoChange(x -> x.reason(0, 0));
        isNoChange(x -> x.count(2));
        isNoChange(x -> x.correction(0, 3));
        isNoChange(x -> x.threadOf(0, 0));
        isNoChange(x -> x.lineIn(0, 0));
        isNoChange(x -> x.busiest(0));
        isNoChange(x -> x.answers(0, 0));
        isNoChange(x -> x.partner(0));
        isNoChange(x -> x.awake(0));
        isNoChange(x -> x.fault(0));
    }

    private static void typeAndClearTextAreNoChanges() {
        isNoChange(x -> x.type('l'));
        isNoChange(x -> x.clearText());
    }

    /** "what if, which changes nothing" */
    private static void whatIfChangesNothing() {
        same(Checks::meeting, () -> done(Checks::meeting, x -> x.threadsWith(1, 200)));
        same(Checks::meeting, () -> done(Checks::meeting, x -> x.threadsWithout(0)));
        same(Checks::meeting, () -> done(Checks::meeting, x -> x.parting(0, 3)));
        same(EdgesOfChangesTest::threeStates, () -> done(EdgesOfChangesTest::threeStates, x -> x.fault(0)));
    }

    /** "The changes are the calls ... that return no error." */
    private static void callsThatReturnAnErrorAreNoChanges() {
        isNoChange(x -> x.takes(0, 16, 0));
        isNoChange(x -> x.line(0, 12, 0, 0));
        isNoChange(x -> x.drop(2));
        isNoChange(x -> x.correct(0, 0, 0));
        isNoChange(x -> x.withdraw(1));
        isNoChange(x -> x.set(6, 0));
        isNoChange(x -> {
            x.type('x');
            x.load();
        });
    }

    /** What was asked ahead of a change says nothing of what is answered after it. */
    private static void answersFollowEachChange() {
        followed(x -> x.takes(3, 0, 0));
        followed(x -> x.line(5, 4, 7, 0));
        followed(x -> x.line(0, 4, 7, 0));
        followed(x -> x.drop(0));
        followed(x -> x.drop(3));
        followed(x -> x.correct(0, 3, 0));
        followed(x -> x.withdraw(0));
        followed(x -> x.set(1, 41));
        followed(x -> x.undo());
        followed(x -> x.load());
        followed(x -> x.type('x'));
    }

    private static void followed(Consumer<ChatThreads> change) {
        due(sameNow(() -> {
            ChatThreads x = corrected();
            for (int n = 0; n < 40; n++) {
                x.lineOf(n / 10, n % 10);
                x.correction(0, n % 4);
                x.threadOf(n / 10, n % 7);
                x.threadsWithout(n % 4);
            }
            x.fault(0);
            change.accept(x);
            return x;
        }, () -> done(EdgesOfChangesTest::corrected, change)), 0);
    }

    private static ChatThreads corrected() {
        ChatThreads x = meeting();
        x.correct(2, 3, 1);
        enter(x, "l0,9,1,0;a4,2;");
        return x;
    }

    // ---- the history

    /** Settings of the window 1, 2 and so on, one by one. */
    private static ChatThreads windowsTo(int last) {
        ChatThreads x = new ChatThreads();
        for (int value = 1; value <= last; value++) {
            x.set(0, value);
        }
        return x;
    }

    private static void theHistoryGrowsToFourStates() {
        int[] states = {0, 1, 2, 3, 4, 4, 4};
        for (int changes = 0; changes < states.length; changes++) {
            due(windowsTo(changes).count(7), states[changes]);
        }
    }

    private static void fourChangesCanAllBeUndone() {
        ChatThreads x = windowsTo(4);
        for (int left = 3; left >= 0; left--) {
            due(x.undo(), left);
            due(x.count(7), left);
            due(x.count(10), left == 0 ? 600 : left);
        }
        due(x.undo(), NOT_POSSIBLE);
        due(x.count(10), 600);
    }

    /** "if there are 5 states then, the oldest one is dropped" */
    private static void ofFiveChangesTheFirstCannotBeUndone() {
        ChatThreads x = windowsTo(5);
        for (int left = 3; left >= 0; left--) {
            due(x.undo(), left);
            due(x.count(10), left + 1);
        }
        due(x.undo(), NOT_POSSIBLE);
        due(x.count(10), 1);
    }

    private static void ofManyChangesTheLastFourCanBeUndone() {
        ChatThreads x = windowsTo(300);
        for (int left = 3; left >= 0; left--) {
            due(x.undo(), left);
            due(x.count(10), 296 + left);
        }
        due(x.undo(), NOT_POSSIBLE);
    }

    private static void undoIsNotPossibleWithoutHistory() {
        refused(ChatThreads::new, ChatThreads::undo, NOT_POSSIBLE);
        refused(() -> done(ChatThreads::new, x -> enter(x, "l0,0,0,0;")), ChatThreads::undo, NOT_POSSIBLE);
        refused(() -> done(() -> windowsTo(1), ChatThreads::undo), ChatThreads::undo, NOT_POSSIBLE);
    }

    /** The state is "removed from it", and undo is no change itself. */
    private static void undoCannotBeUndone() {
        ChatThreads x = windowsTo(2);
        due(x.undo(), 1);
        due(x.count(10), 1);
        due(x.undo(), 0);
        due(x.count(10), 600);
        due(x.undo(), NOT_POSSIBLE);
    }

    private static void changesAfterAnUndoAreRecordedAnew() {
        ChatThreads x = windowsTo(6);
        due(x.undo(), 3);
        due(x.undo(), 2);
        x.set(0, 77);
        x.set(0, 78);
        due(x.count(7), 4);
        x.set(0, 79);
        due(x.count(7), 4);
        due(x.undo(), 3);
        due(x.count(10), 78);
        due(x.undo(), 2);
        due(x.count(10), 77);
        due(x.undo(), 1);
        due(x.count(10), 4);
        due(x.undo(), 0);
        due(x.count(10), 3);
        due(x.undo(), NOT_POSSIBLE);
    }

    /** "each change records everything before it": the fullest state there can be. */
    private static void aFullStateComesBackWhole() {
        same(EdgesOfChangesTest::full, () -> done(EdgesOfChangesTest::full, x -> {
            x.drop(29);
            x.undo();
        }));
        same(EdgesOfChangesTest::full, () -> done(EdgesOfChangesTest::full, x -> {
            x.drop(0);
            x.undo();
        }));
        same(EdgesOfChangesTest::full, () -> done(EdgesOfChangesTest::full, x -> {
            x.withdraw(0);
            x.undo();
        }));
    }

    /** All names, lines, corrections and characters that there can be, and one state in the history. */
    private static ChatThreads full() {
        ChatThreads x = new ChatThreads();
        for (int n = 0; n < 20; n++) {
            x.takes(n % 12, n % 12, 10 * n);
        }
        for (int n = 0; n < 30; n++) {
            x.line(3 * n, n % 12, 1 << n % 7 | 1, 3 << n % 15);
        }
        for (int n = 1; n <= 12; n++) {
            x.correct(n % 3, 2 * n, n);
        }
        for (int what = 0; what < 8; what++) {
            x.set(what, 30 + what);
        }
        x.undo();
        x.undo();
        x.undo();
        enter(x, ";".repeat(80));
        return x;
    }

    private static void theFullestStateIsFull() {
        ChatThreads x = full();
        due(x.count(0), 30);
        due(x.count(1), 12);
        due(x.count(6), 20);
        due(x.count(7), 1);
        due(x.count(8), 80);
    }

    /** "records everything before it but the text" */
    private static void theTextIsNotUndone() {
        ChatThreads x = windowsTo(1);
        enter(x, "ab");
        due(x.undo(), 0);
        due(x.count(8), 2);
        x.set(0, 5);
        x.clearText();
        due(x.undo(), 0);
        due(x.count(8), 0);
    }

    private static void theTextOfALoadStaysWhenItIsUndone() {
        ChatThreads x = new ChatThreads();
        enter(x, "l5,4,3,2;");
        due(x.load(), 1);
        due(x.undo(), 0);
        due(x.count(8), 9);
        due(x.load(), 1);
        due(x.lineOf(0, 0), 5);
    }

    // ---- "A call that returns an error changes nothing", however full the chat is

    private static void noRefusedCallChangesAFullChat() {
        refused(EdgesOfChangesTest::full, x -> x.takes(0, 12, 500), LIMIT);
        refused(EdgesOfChangesTest::full, x -> x.takes(0, 12, 0), NOT_POSSIBLE);
        refused(EdgesOfChangesTest::full, x -> x.line(0, 0, 0, 0), LIMIT);
        refused(EdgesOfChangesTest::full, x -> x.drop(30), INVALID);
        refused(EdgesOfChangesTest::full, x -> x.correct(0, 29, 0), LIMIT);
        refused(EdgesOfChangesTest::full, x -> x.correct(0, 6, 0), NOT_POSSIBLE);
        refused(EdgesOfChangesTest::full, x -> x.correct(1, 29, 30), INVALID);
        refused(EdgesOfChangesTest::full, x -> x.withdraw(12), INVALID);
        refused(EdgesOfChangesTest::full, x -> x.set(7, 101), INVALID);
        refused(EdgesOfChangesTest::full, x -> x.type(';'), LIMIT);
        refused(EdgesOfChangesTest::full, ChatThreads::load, NOT_POSSIBLE);
        refused(EdgesOfChangesTest::full, x -> x.threadsWithout(30), INVALID);
        refused(EdgesOfChangesTest::full, x -> x.threadsWith(6, 0), INVALID);
        refused(EdgesOfChangesTest::full, x -> x.parting(29, 29), INVALID);
    }

    /** "If there is no line or thread with a certain number, this is INVALID_ARGUMENT.": in whatever call. */
    private static void thereIsNoLineOrThreadInAnEmptyChat() {
        noneBeyond(ChatThreads::new, (x, v) -> x.drop(v), 0, -1);
        noneBeyond(ChatThreads::new, (x, v) -> x.lineOf(v, 6), 0, -1);
        noneBeyond(ChatThreads::new, (x, v) -> x.score(v, v), 0, -1);
        noneBeyond(ChatThreads::new, (x, v) -> x.reason(v, v), 0, -1);
        noneBeyond(ChatThreads::new, (x, v) -> x.correct(0, v, v), 0, -1);
        noneBeyond(ChatThreads::new, (x, v) -> x.correct(1, v, v), 0, -1);
        noneBeyond(ChatThreads::new, (x, v) -> x.threadOf(v, 0), 0, -1);
        noneBeyond(ChatThreads::new, (x, v) -> x.lineIn(v, 0), 0, -1);
        noneBeyond(ChatThreads::new, (x, v) -> x.threadsWithout(v), 0, -1);
        noneBeyond(ChatThreads::new, (x, v) -> x.parting(v, 1), 0, -1);
    }

    private static void aDroppedLineIsNoLineAnyMore() {
        ChatThreads x = fourLines();
        x.drop(0);
        due(x.lineOf(3, 0), INVALID);
        due(x.drop(3), INVALID);
        due(x.score(3, 0), INVALID);
        due(x.reason(3, 0), INVALID);
        due(x.correct(0, 3, 0), INVALID);
        due(x.threadsWithout(3), INVALID);
        due(x.parting(3, 0), INVALID);
        due(x.threadOf(3, 0), INVALID);
        due(x.lineIn(3, 0), INVALID);
    }
}

/**
 * For each promise of the document its ordinary inputs, the edges that the document names and
 * wrong inputs. The answers that are due were worked out by hand from the document.
 */
public final class PromisesTest extends Checks {
    public static void main(String[] args) throws ReflectiveOperationException {
        runTestsOf(PromisesTest.class);
    }

    private static void promise1NewObject() {
        ChatThreads x = new ChatThreads();
        int[] counts = {0, 0, 0, 0, 0, 0, 0, 0, 0};
        for (int what = 0; what <= 8; what++) {
            due(x.count(what), counts[what]);
        }
        int[] settings = {600, 20, 40, 25, 10, 15, 30, 5};
        for (int what = 0; what <= 7; what++) {
            due(x.count(10 + what), settings[what]);
        }
        for (int n = 0; n < 12; n++) {
            due(x.nameOf(n, 100000), NOT_FOUND);
            due(x.partner(n), NOT_FOUND);
        }
        for (int n = 0; n < 16; n++) {
            due(x.whoHas(n, 100000), NOT_FOUND);
        }
        due(x.inOrder(0), NOT_FOUND);
        due(x.busiest(0), NOT_FOUND);
        due(x.awake(0), 0);
        due(x.threadsWith(0, 0), 0);
        due(x.undo(), NOT_POSSIBLE);
        due(x.lineOf(0, 0), INVALID);
        due(x.drop(0), INVALID);
        due(x.correct(0, 0, 0), INVALID);
        due(x.withdraw(0), INVALID);
        due(x.correction(0, 0), INVALID);
        due(x.threadOf(0, 0), INVALID);
        due(x.lineIn(0, 0), INVALID);
        due(x.score(0, 0), INVALID);
        due(x.reason(0, 0), INVALID);
        due(x.threadsWithout(0), INVALID);
        due(x.parting(0, 1), INVALID);
    }

    private static void promise2Takes() {
        ChatThreads x = new ChatThreads();
        due(x.takes(-1, 0, 0), INVALID);
        due(x.takes(12, 0, 0), INVALID);
        due(x.takes(0, -1, 0), INVALID);
        due(x.takes(0, 16, 0), INVALID);
        due(x.takes(0, 0, -1), INVALID);
        due(x.takes(0, 0, 100001), INVALID);
        due(x.count(6), 0);
        due(x.takes(11, 15, 500), 1);
        due(x.takes(11, 15, 499), NOT_POSSIBLE);
        due(x.takes(0, 0, 499), NOT_POSSIBLE);
        due(x.takes(0, 15, 500), NOT_POSSIBLE);
        due(x.takes(11, 15, 500), 2);
        due(x.takes(11, 14, 500), 3);
        due(x.takes(0, 15, 500), 4);
        due(x.takes(11, 15, 501), NOT_POSSIBLE);
        due(x.takes(0, 16, 499), INVALID);
        for (int n = 5; n <= 20; n++) {
            due(x.takes(5, n % 10, 100000), n);
        }
        due(x.takes(5, 1, 100000), LIMIT);
        due(x.takes(5, 1, 99999), NOT_POSSIBLE);
        due(x.takes(5, 14, 100000), NOT_POSSIBLE);
        due(x.takes(5, 16, 100000), INVALID);
        due(x.count(6), 20);
        due(x.count(7), 4);
    }

    private static void promise3NameOf() {
        ChatThreads x = new ChatThreads();
        x.takes(11, 3, 10);
        x.takes(0, 5, 10);
        x.takes(11, 4, 20);
        x.takes(0, 3, 20);
        x.takes(0, 6, 20);
        due(x.nameOf(11, 9), NOT_FOUND);
        due(x.nameOf(11, 10), 3);
        due(x.nameOf(11, 19), 3);
        due(x.nameOf(11, 20), 4);
        due(x.nameOf(11, 100000), 4);
        due(x.nameOf(0, 0), NOT_FOUND);
        due(x.nameOf(0, 15), 5);
        due(x.nameOf(0, 20), 6);
        due(x.nameOf(1, 20), NOT_FOUND);
        due(x.nameOf(-1, 0), INVALID);
        due(x.nameOf(12, 0), INVALID);
        due(x.nameOf(0, -1), INVALID);
        due(x.nameOf(0, 100001), INVALID);
        due(x.count(7), 4);
    }

    private static void promise4WhoHas() {
        ChatThreads x = new ChatThreads();
        x.takes(11, 0, 10);
        x.takes(3, 15, 10);
        x.takes(11, 1, 20);
        x.takes(3, 0, 20);
        due(x.whoHas(0, 9), NOT_FOUND);
        due(x.whoHas(0, 10), 11);
        due(x.whoHas(0, 19), 11);
        due(x.whoHas(0, 20), 3);
        due(x.whoHas(1, 19), NOT_FOUND);
        due(x.whoHas(1, 100000), 11);
        due(x.whoHas(15, 10), 3);
        due(x.whoHas(15, 20), NOT_FOUND);
        due(x.whoHas(-1, 0), INVALID);
        due(x.whoHas(16, 0), INVALID);
        due(x.whoHas(0, -1), INVALID);
        due(x.whoHas(0, 100001), INVALID);
    }

    private static void promise5Line() {
        ChatThreads x = new ChatThreads();
        due(x.line(-1, 0, 0, 0), INVALID);
        due(x.line(100001, 0, 0, 0), INVALID);
        due(x.line(0, -1, 0, 0), INVALID);
        due(x.line(0, 12, 0, 0), INVALID);
        due(x.line(0, 0, -1, 0), INVALID);
        due(x.line(0, 0, 65536, 0), INVALID);
        due(x.line(0, 0, 0, -1), INVALID);
        due(x.line(0, 0, 0, 65536), INVALID);
        due(x.count(0), 0);
        due(x.count(7), 0);
        due(x.line(100000, 11, 65535, 65535), 0);
        due(x.line(0, 0, 0, 0), 1);
        for (int n = 2; n < 30; n++) {
            due(x.line(n, 1, 0, 0), n);
        }
        due(x.line(0, 0, 0, 0), LIMIT);
        due(x.line(0, 0, 0, 65536), INVALID);
        due(x.count(0), 30);
        due(x.lineOf(0, 4), 29);
        due(x.drop(0), 0);
        due(x.line(7, 0, 0, 0), 29);
        due(x.lineOf(29, 0), 7);
    }

    private static void promise6Drop() {
        ChatThreads x = fourLines();
        x.correct(1, 2, 0);
        x.correct(2, 3, 1);
        x.correct(0, 1, 99);
        x.correct(1, 3, 2);
        due(x.drop(-1), INVALID);
        due(x.drop(4), INVALID);
        due(x.drop(1), 2);
        due(x.count(0), 3);
        due(x.lineOf(1, 1), 2);
        due(x.lineOf(2, 1), 3);
        due(x.lineOf(3, 1), INVALID);
        due(x.correction(0, 0), 1);
        due(x.correction(0, 1), 1);
        due(x.correction(0, 2), 0);
        due(x.correction(1, 1), 2);
        due(x.correction(1, 2), 1);
        due(x.lineOf(2, 6), 1);
        due(x.undo(), 3);
        due(x.count(1), 4);
        due(x.count(0), 4);
        due(x.drop(0), 3);
        due(x.correction(1, 0), 0);
        due(x.correction(1, 1), 0);
        due(x.correction(1, 2), NOT_FOUND);
        due(x.drop(2), 1);
        due(x.correction(0, 0), 0);
        due(x.drop(0), 0);
        due(x.drop(0), 0);
        due(x.drop(0), INVALID);
    }

    private static void promise7LineOf() {
        ChatThreads x = named();
        x.line(50, 3, 5, 9);
        x.line(40, 0, 4096, 8);
        x.line(50, 2, 8, 65535);
        x.line(60, 0, 12, 0);
        int[] times = {50, 40, 50, 60};
        int[] writers = {3, 0, 2, 0};
        int[] names = {5, 4096, 8, 12};
        int[] words = {9, 8, 65535, 0};
        int[] places = {1, 0, 2, 3};
        // line 0 speaks to 0 and 2, line 2 to 3, line 3 to 2 and 3
        int[] spokenTo = {5, 0, 8, 12};
        // line 3 is called by line 0 (65), by line 2 it is not (40)
        int[] answered = {1, NOT_FOUND, 0, 0};
        int[] answers = {2, 1, 0, 0};
        for (int n = 0; n < 4; n++) {
            due(x.lineOf(n, 0), times[n]);
            due(x.lineOf(n, 1), writers[n]);
            due(x.lineOf(n, 2), names[n]);
            due(x.lineOf(n, 3), words[n]);
            due(x.lineOf(n, 4), places[n]);
            due(x.lineOf(n, 5), 0);
            due(x.lineOf(n, 6), answered[n]);
            due(x.lineOf(n, 7), answers[n]);
            due(x.lineOf(n, 8), 0);
            due(x.lineOf(n, 9), spokenTo[n]);
        }
        due(x.lineOf(0, -1), INVALID);
        due(x.lineOf(0, 10), INVALID);
        due(x.lineOf(-1, 0), INVALID);
        due(x.lineOf(4, 0), INVALID);
        x.correct(0, 0, 0);
        due(x.lineOf(1, 5), 0);
        due(x.lineOf(0, 5), 1);
        due(x.lineOf(2, 5), 1);
        due(x.lineOf(0, 6), NOT_FOUND);
        due(x.lineOf(1, 7), 0);
        // a name that goes on to another person: only who has it at the time of the line is meant
        ChatThreads y = new ChatThreads();
        y.takes(1, 7, 10);
        y.takes(1, 8, 20);
        y.takes(2, 7, 20);
        y.line(9, 0, 384, 0);
        y.line(19, 0, 384, 0);
        y.line(20, 1, 384, 0);
        due(y.lineOf(0, 9), 0);
        due(y.lineOf(1, 9), 2);
        due(y.lineOf(2, 9), 6);
    }

    private static void promise8InOrder() {
        ChatThreads x = new ChatThreads();
        x.line(20, 0, 0, 0);
        x.line(10, 1, 0, 0);
        x.line(20, 2, 0, 0);
        x.line(10, 3, 0, 0);
        x.line(0, 4, 0, 0);
        int[] order = {4, 1, 3, 0, 2};
        for (int i = 0; i < 5; i++) {
            due(x.inOrder(i), order[i]);
        }
        due(x.inOrder(5), NOT_FOUND);
        due(x.inOrder(Integer.MAX_VALUE), NOT_FOUND);
        due(x.inOrder(-1), INVALID);
        x.drop(1);
        due(x.inOrder(1), 2);
        due(x.inOrder(3), 1);
        due(x.inOrder(4), NOT_FOUND);
    }

    private static void promise9Score() {
        ChatThreads x = named();
        x.line(1000, 0, 2, 7);
        x.line(1000, 1, 1, 14);
        x.line(1059, 0, 0, 65535);
        x.line(100000, 2, 0, 0);
        x.line(0, 2, 0, 0);
        // name 40, call 25, two words 20
        due(x.score(1, 0), 100085);
        // call 25, three words 30, gap 59 / 30
        due(x.score(2, 1), 100054);
        // own 15, three words 30, gap 59 / 30
        due(x.score(2, 0), 100044);
        due(x.score(3, 2), 100000 - 98941 / 30);
        due(x.score(3, 4), 100015 - 3333);
        due(x.score(0, 1), NOT_POSSIBLE);
        due(x.score(0, 0), NOT_POSSIBLE);
        due(x.score(4, 3), NOT_POSSIBLE);
        due(x.score(-1, 0), INVALID);
        due(x.score(0, -1), INVALID);
        due(x.score(5, 0), INVALID);
        due(x.score(0, 5), INVALID);
        x.set(2, 100);
        x.set(3, 1);
        x.set(4, 50);
        due(x.score(1, 0), 100201);
        x.set(5, 99);
        x.set(6, 1);
        due(x.score(3, 4), 99);
        due(x.score(2, 0), 100000 + 150 + 99 - 59);
        x.set(5, 0);
        due(x.score(3, 4), 0);
        x.set(6, 1000);
        due(x.score(3, 4), 99900);
    }

    private static void promise9ScoreOfWritersNames() {
        ChatThreads x = new ChatThreads();
        x.takes(0, 0, 0);
        x.takes(1, 1, 0);
        x.line(10, 0, 2, 0);
        x.line(30, 1, 1, 0);
        due(x.score(1, 0), 100065);
        // names change hands in between: both lines go by the names at their own times
        x.takes(0, 2, 20);
        x.takes(2, 0, 20);
        due(x.score(1, 0), 100025);
        x.takes(1, 3, 20);
        due(x.score(1, 0), 100025);
        // a line that speaks to its own writer
        x.line(40, 1, 8, 0);
        due(x.score(2, 1), 100055);
        x.line(50, 1, 0, 0);
        due(x.score(3, 2), 100040);
    }

    private static void promise10Reason() {
        ChatThreads x = named();
        x.line(0, 0, 0, 3);
        x.line(5, 1, 0, 3);
        x.line(100, 2, 0, 3);
        x.line(700, 2, 1, 3);
        x.line(701, 3, 0, 0);
        due(x.reason(1, 0), 0);
        due(x.reason(0, 1), 1);
        due(x.reason(0, 0), 1);
        due(x.reason(2, 1), 5);
        x.set(1, 15);
        due(x.reason(2, 1), 0);
        due(x.reason(2, 0), 6);
        due(x.reason(3, 0), 4);
        due(x.reason(3, 1), 4);
        due(x.reason(3, 2), 0);
        due(x.reason(4, 3), 5);
        due(x.reason(4, 0), 4);
        due(x.reason(-1, 0), INVALID);
        due(x.reason(0, -1), INVALID);
        due(x.reason(5, 0), INVALID);
        due(x.reason(0, 5), INVALID);
        x.set(0, 0);
        due(x.reason(2, 1), 4);
        x.line(5, 4, 0, 3);
        due(x.reason(5, 1), 0);
    }

    private static void promise10ReasonByCorrections() {
        ChatThreads x = named();
        x.line(0, 0, 0, 3);
        x.line(0, 1, 0, 3);
        x.line(10, 2, 0, 3);
        x.line(50000, 3, 0, 0);
        x.correct(2, 2, 1);
        due(x.reason(2, 1), 3);
        due(x.reason(2, 0), 0);
        x.correct(0, 2, 0);
        due(x.reason(2, 1), 2);
        due(x.reason(2, 0), 2);
        due(x.reason(0, 2), 1);
        x.correct(1, 2, 1);
        due(x.reason(2, 1), 0);
        due(x.reason(2, 0), 2);
        x.correct(1, 3, 2);
        due(x.reason(3, 2), 0);
        due(x.reason(3, 1), 2);
        x.correct(2, 3, 2);
        due(x.reason(3, 2), 0);
        x.withdraw(3);
        due(x.reason(3, 2), 3);
        due(x.reason(3, 1), 4);
    }

    private static void promise11Set() {
        ChatThreads x = new ChatThreads();
        int[] first = {600, 20, 40, 25, 10, 15, 30, 5};
        int[] least = {0, 0, 0, 0, 0, 0, 1, 0};
        int[] greatest = {100000, 200, 100, 100, 50, 100, 1000, 100};
        for (int what = 0; what <= 7; what++) {
            due(x.set(what, least[what] - 1), INVALID);
            due(x.set(what, greatest[what] + 1), INVALID);
            due(x.set(what, least[what]), first[what]);
            due(x.set(what, greatest[what]), least[what]);
            due(x.set(what, greatest[what]), greatest[what]);
            due(x.count(10 + what), greatest[what]);
        }
        due(x.set(-1, 1), INVALID);
        due(x.set(8, 1), INVALID);
        due(x.count(7), 4);
        x.undo();
        due(x.count(17), 100);
        x.undo();
        due(x.count(17), 0);
    }

    private static void promise12Count() {
        ChatThreads x = named();
        x.line(0, 0, 0, 1);
        x.line(0, 1, 0, 2);
        x.line(10, 2, 3, 0);
        x.line(20, 3, 0, 0);
        x.line(30, 4, 0, 0);
        x.line(40, 5, 0, 0);
        x.correct(0, 3, 0);
        x.correct(2, 4, 3);
        x.correct(1, 5, 3);
        enter(x, "abc");
        // line 2 answers line 1 and joins the thread of line 0; 3 and 4 begin threads, 5 answers 3
        int[] counts = {6, 3, 3, 4, 1, 2, 12, 4, 3, INVALID, 600, 20, 40, 25, 10, 15, 30, 5, INVALID};
        for (int what = 0; what < counts.length; what++) {
            due(x.count(what), counts[what]);
        }
        due(x.count(-1), INVALID);
        x.correct(0, 5, 0);
        due(x.count(5), 2);
        due(x.count(1), 4);
        due(x.count(2), 4);
        due(x.count(3), 5);
    }

    private static void promise13Undo() {
        ChatThreads x = new ChatThreads();
        due(x.undo(), NOT_POSSIBLE);
        x.line(1, 0, 0, 0);
        due(x.count(7), 1);
        x.takes(0, 3, 0);
        x.set(0, 77);
        x.correct(0, 0, 0);
        due(x.count(7), 4);
        x.withdraw(0);
        due(x.count(7), 4);
        enter(x, "xy");
        due(x.undo(), 3);
        due(x.count(1), 1);
        due(x.correction(0, 0), 0);
        due(x.count(8), 2);
        due(x.undo(), 2);
        due(x.count(1), 0);
        due(x.count(10), 77);
        due(x.undo(), 1);
        due(x.count(10), 600);
        due(x.nameOf(0, 0), 3);
        due(x.undo(), 0);
        due(x.nameOf(0, 0), NOT_FOUND);
        due(x.count(0), 1);
        due(x.undo(), NOT_POSSIBLE);
        due(x.count(0), 1);
        // errors and questions leave the history as it is
        x.line(-1, 0, 0, 0);
        x.set(9, 0);
        x.drop(7);
        x.correct(1, 0, 0);
        x.withdraw(0);
        x.takes(12, 0, 0);
        x.load();
        x.threadsWith(0, 5);
        x.threadsWithout(0);
        x.clearText();
        due(x.count(7), 0);
        x.drop(0);
        due(x.count(7), 1);
        due(x.undo(), 0);
        due(x.lineOf(0, 0), 1);
        x.load();
        due(x.count(7), 1);
        // what comes after an undo is recorded anew
        x.line(2, 0, 0, 0);
        x.undo();
        x.line(3, 0, 0, 0);
        x.line(4, 0, 0, 0);
        due(x.undo(), 2);
        due(x.lineOf(1, 0), 3);
        due(x.lineOf(2, 0), INVALID);
        due(x.count(2), 2);
    }

    private static void promise14Correct() {
        ChatThreads x = fourLines();
        due(x.correct(-1, 1, 0), INVALID);
        due(x.correct(3, 1, 0), INVALID);
        due(x.correct(0, -1, 0), INVALID);
        due(x.correct(0, 4, 0), INVALID);
        due(x.correct(1, 4, 0), INVALID);
        due(x.correct(1, 1, -1), INVALID);
        due(x.correct(2, 1, 4), INVALID);
        due(x.correct(1, 1, 1), NOT_POSSIBLE);
        due(x.correct(2, 1, 2), NOT_POSSIBLE);
        due(x.correct(0, 0, -77), 1);
        due(x.correct(0, 0, 3), NOT_POSSIBLE);
        due(x.correct(1, 1, 0), 2);
        due(x.correct(1, 1, 0), NOT_POSSIBLE);
        due(x.correct(2, 1, 0), 3);
        due(x.correct(2, 1, 0), NOT_POSSIBLE);
        due(x.correct(0, 1, 4), 4);
        due(x.correct(1, 1, 0), NOT_POSSIBLE);
        due(x.lineOf(1, 6), NOT_FOUND);
        due(x.correct(1, 2, 0), 5);
        due(x.correct(1, 2, 1), 6);
        due(x.lineOf(2, 6), 1);
        due(x.correct(2, 2, 0), 7);
        due(x.correct(2, 2, 1), 8);
        due(x.lineOf(2, 6), 1);
        due(x.correct(0, 2, 0), 9);
        due(x.correct(1, 3, 0), 10);
        due(x.correct(1, 3, 1), 11);
        due(x.correct(1, 3, 2), 12);
        due(x.correct(0, 3, 0), LIMIT);
        due(x.correct(1, 3, 2), NOT_POSSIBLE);
        due(x.correct(1, 2, 3), NOT_POSSIBLE);
        due(x.correct(1, 4, 3), INVALID);
        due(x.count(1), 12);
        due(x.count(7), 4);
        // the order of lines goes by their times, not by their numbers
        ChatThreads y = new ChatThreads();
        y.line(9, 0, 0, 0);
        y.line(8, 0, 0, 0);
        due(y.correct(1, 1, 0), NOT_POSSIBLE);
        due(y.correct(1, 0, 1), 1);
        due(y.lineOf(0, 6), 1);
        // the greatest number of corrections is no edge for what follows from them
        due(x.threadsWithout(0), 2);
        due(x.lineOf(3, 6), 2);
        due(x.withdraw(11), 11);
        due(x.lineOf(3, 6), 1);
        x.undo();
        due(x.drop(0), 6);
    }

    private static void promise15Withdraw() {
        ChatThreads x = fourLines();
        due(x.withdraw(0), INVALID);
        x.correct(1, 2, 0);
        x.correct(0, 2, 0);
        x.correct(1, 3, 2);
        due(x.withdraw(-1), INVALID);
        due(x.withdraw(3), INVALID);
        due(x.lineOf(2, 6), NOT_FOUND);
        due(x.withdraw(1), 2);
        due(x.lineOf(2, 6), 0);
        due(x.correction(1, 1), 3);
        due(x.correction(1, 2), 2);
        due(x.withdraw(0), 1);
        due(x.lineOf(2, 6), NOT_FOUND);
        due(x.correction(0, 1), 3);
        due(x.withdraw(0), 0);
        due(x.withdraw(0), INVALID);
        due(x.undo(), 3);
        due(x.correction(0, 1), 3);
    }

    private static void promise16Correction() {
        ChatThreads x = named();
        x.line(0, 0, 0, 3);
        x.line(1, 1, 0, 3);
        x.line(2, 2, 0, 3);
        x.correct(2, 2, 1);
        due(x.correction(0, 0), 2);
        due(x.correction(0, 1), 2);
        due(x.correction(0, 2), 1);
        due(x.correction(0, 3), 1);
        x.correct(2, 2, 0);
        // without this one the line would answer line 0, and without the other one line 1
        due(x.correction(0, 3), 1);
        due(x.correction(1, 3), 1);
        x.withdraw(0);
        // it answers line 1 by a score, and would do so without the correction
        due(x.correction(0, 2), 0);
        due(x.correction(0, 3), 0);
        x.correct(2, 2, 1);
        x.correct(0, 2, 5);
        due(x.correction(2, 0), 0);
        due(x.correction(2, 1), 2);
        due(x.correction(2, 2), NOT_FOUND);
        due(x.correction(2, 3), 1);
        due(x.correction(0, 3), 0);
        due(x.correction(1, 3), 0);
        x.correct(1, 2, 0);
        due(x.correction(2, 3), 0);
        due(x.correction(3, 3), 1);
        due(x.correction(1, 3), 0);
        x.correct(0, 1, 0);
        due(x.correction(3, 3), 1);
        due(x.correction(4, 3), 1);
        due(x.correction(-1, 0), INVALID);
        due(x.correction(5, 0), INVALID);
        due(x.correction(0, -1), INVALID);
        due(x.correction(0, 4), INVALID);
    }

    /** Thread 0: lines 2, 0, 4 and 5; thread 1: lines 1 and 3. */
    private static ChatThreads twoThreads() {
        ChatThreads x = new ChatThreads();
        x.line(20, 1, 0, 3);
        x.line(25, 2, 0, 12);
        x.line(10, 0, 0, 3);
        x.line(90, 2, 0, 12);
        x.line(60, 0, 0, 1);
        x.line(95, 3, 0, 3);
        x.set(1, 5);
        return x;
    }

    private static void promise17ThreadOf() {
        ChatThreads x = twoThreads();
        due(x.count(2), 2);
        // 0 answers 2 (20), 4 answers 2 by words and own (24), 5 answers 0 (18) rather than 2 (18)
        due(x.lineOf(0, 6), 2);
        due(x.lineOf(4, 6), 2);
        due(x.lineOf(5, 6), 0);
        due(x.lineOf(3, 6), 1);
        int[] first = {4, 11, 2, 5, 85, 40, 3};
        int[] second = {2, 4, 1, 3, 65, 65, 2};
        for (int what = 0; what < 7; what++) {
            due(x.threadOf(0, what), first[what]);
            due(x.threadOf(1, what), second[what]);
        }
        due(x.threadOf(-1, 0), INVALID);
        due(x.threadOf(2, 0), INVALID);
        due(x.threadOf(0, -1), INVALID);
        due(x.threadOf(0, 7), INVALID);
        x.line(95, 11, 0, 0);
        int[] third = {1, 2048, 6, 6, 0, 0, 1};
        for (int what = 0; what < 7; what++) {
            due(x.threadOf(2, what), third[what]);
        }
        // the first line in order is line 0, and the greatest gap is behind it
        ChatThreads y = fourLines();
        y.line(103, 0, 0, 0);
        y.drop(3);
        y.drop(2);
        y.drop(1);
        y.line(105, 0, 0, 0);
        y.set(5, 100);
        int[] only = {3, 1, 0, 2, 105, 103, 3};
        for (int what = 0; what < 7; what++) {
            due(y.threadOf(0, what), only[what]);
        }
    }

    private static void promise17Rows() {
        ChatThreads x = fourLines();
        x.correct(1, 3, 0);
        x.correct(1, 2, 0);
        x.correct(1, 1, 0);
        due(x.threadOf(0, 0), 4);
        due(x.threadOf(0, 6), 2);
        x.correct(1, 3, 2);
        due(x.threadOf(0, 6), 3);
        x.correct(1, 2, 1);
        due(x.threadOf(0, 6), 4);
    }

    private static void promise18LineIn() {
        ChatThreads x = twoThreads();
        int[] lines = {2, 0, 4, 5};
        for (int i = 0; i < 4; i++) {
            due(x.lineIn(0, i), lines[i]);
        }
        due(x.lineIn(0, 4), NOT_FOUND);
        due(x.lineIn(0, Integer.MAX_VALUE), NOT_FOUND);
        due(x.lineIn(1, 0), 1);
        due(x.lineIn(1, 1), 3);
        due(x.lineIn(1, 2), NOT_FOUND);
        due(x.lineIn(0, -1), INVALID);
        due(x.lineIn(2, 0), INVALID);
        due(x.lineIn(-1, 0), INVALID);
    }

    private static void promise19Busiest() {
        ChatThreads x = twoThreads();
        due(x.busiest(0), 0);
        due(x.busiest(1), 1);
        due(x.busiest(2), NOT_FOUND);
        due(x.busiest(-1), INVALID);
        x.drop(0);
        x.drop(4);
        // two lines each: thread 0 ends at 60, thread 1 at 90
        due(x.threadOf(0, 0), 2);
        due(x.busiest(0), 1);
        due(x.busiest(1), 0);
        due(x.busiest(2), NOT_FOUND);
        // of the same times the later number is the later one in order
        ChatThreads y = new ChatThreads();
        y.line(5, 0, 0, 0);
        y.line(5, 1, 0, 0);
        y.line(5, 2, 0, 0);
        due(y.busiest(0), 2);
        due(y.busiest(1), 1);
        due(y.busiest(2), 0);
        y.correct(1, 1, 0);
        due(y.busiest(0), 0);
        due(y.busiest(1), 1);
    }

    private static void promise20And21AnswersAndPartner() {
        ChatThreads x = new ChatThreads();
        int[] writers = {3, 2, 0, 0, 0, 0, 0, 0};
        for (int i = 0; i < 8; i++) {
            x.line(i, writers[i], 0, 0);
        }
        x.set(5, 0);
        due(x.partner(0), NOT_FOUND);
        due(x.answers(0, 3), 0);
        x.correct(1, 2, 0);
        due(x.partner(0), 3);
        x.correct(1, 3, 1);
        due(x.partner(0), 2);
        x.correct(1, 4, 0);
        due(x.partner(0), 3);
        x.correct(1, 5, 4);
        x.correct(1, 6, 5);
        x.correct(1, 7, 6);
        due(x.answers(0, 0), 3);
        due(x.answers(0, 3), 2);
        due(x.answers(0, 2), 1);
        due(x.answers(3, 0), 0);
        due(x.answers(0, 11), 0);
        due(x.partner(0), 3);
        due(x.partner(3), NOT_FOUND);
        due(x.partner(11), NOT_FOUND);
        due(x.answers(-1, 0), INVALID);
        due(x.answers(12, 0), INVALID);
        due(x.answers(0, -1), INVALID);
        due(x.answers(0, 12), INVALID);
        due(x.partner(-1), INVALID);
        due(x.partner(12), INVALID);
        // one who only answers oneself has no partner
        ChatThreads y = new ChatThreads();
        y.line(0, 11, 0, 1);
        y.line(1, 11, 0, 1);
        due(y.answers(11, 11), 1);
        due(y.partner(11), NOT_FOUND);
        y.line(2, 10, 0, 3);
        y.line(3, 11, 0, 2);
        y.set(1, 5);
        y.set(5, 0);
        due(y.partner(11), 10);
    }

    private static void promise22Awake() {
        ChatThreads x = new ChatThreads();
        x.set(0, 10);
        x.line(100, 0, 0, 0);
        x.line(105, 1, 0, 0);
        x.line(105, 2, 0, 0);
        x.correct(1, 2, 1);
        due(x.awake(99), 0);
        due(x.awake(100), 1);
        due(x.awake(104), 1);
        due(x.awake(105), 2);
        due(x.awake(109), 2);
        due(x.awake(110), 1);
        due(x.awake(114), 1);
        due(x.awake(115), 0);
        due(x.awake(0), 0);
        due(x.awake(100000), 0);
        due(x.awake(-1), INVALID);
        due(x.awake(100001), INVALID);
        x.set(0, 0);
        due(x.awake(105), 0);
        x.set(0, 100000);
        due(x.awake(100000), 2);
        x.line(0, 3, 0, 0);
        due(x.awake(99999), 3);
        due(x.awake(100000), 2);
    }

    private static void promise23ThreadsWith() {
        ChatThreads x = named();
        x.line(0, 0, 0, 1);
        x.line(0, 1, 0, 2);
        x.line(10, 2, 1, 0);
        x.line(300, 2, 0, 4);
        x.line(300, 4, 0, 0);
        // 2 answers 0 by a name (40); 3 has one's own with 2 (15 - 9); 1 and 4 are alone
        due(x.count(2), 4);
        due(x.threadsWith(1, 20), 4);
        due(x.threadsWith(1, 40), 4);
        due(x.threadsWith(1, 41), 5);
        due(x.threadsWith(1, 6), 3);
        due(x.threadsWith(1, 7), 4);
        due(x.threadsWith(2, 19), 5);
        due(x.threadsWith(2, 20), 4);
        due(x.threadsWith(5, 29), 3);
        due(x.threadsWith(5, 28), 4);
        due(x.threadsWith(0, 9), 5);
        due(x.threadsWith(0, 10), 4);
        due(x.threadsWith(3, 100), 4);
        due(x.threadsWith(6, 1000), 4);
        due(x.threadsWith(7, 100), 4);
        due(x.threadsWith(4, 50), 4);
        int[] greatest = {100000, 200, 100, 100, 50, 100, 1000, 100};
        for (int what = 0; what < 8; what++) {
            due(x.threadsWith(what, greatest[what] + 1), INVALID);
            due(x.threadsWith(what, -1), INVALID);
        }
        due(x.threadsWith(6, 0), INVALID);
        due(x.threadsWith(-1, 5), INVALID);
        due(x.threadsWith(8, 5), INVALID);
        due(x.count(11), 20);
        due(x.count(2), 4);
        due(x.count(7), 4);
    }

    private static void promise24ThreadsWithout() {
        ChatThreads x = fourLines();
        x.correct(1, 1, 0);
        x.correct(1, 3, 0);
        x.correct(1, 3, 2);
        due(x.count(2), 2);
        due(x.threadsWithout(0), 2);
        due(x.threadsWithout(1), 2);
        // the later correction of line 3 goes with line 2, so the one before it counts
        due(x.threadsWithout(2), 1);
        due(x.threadsWithout(3), 2);
        due(x.threadsWithout(-1), INVALID);
        due(x.threadsWithout(4), INVALID);
        due(x.count(0), 4);
        due(x.count(1), 3);
        due(x.count(2), 2);
        due(x.count(7), 4);
        ChatThreads y = new ChatThreads();
        y.line(0, 0, 0, 0);
        due(y.threadsWithout(0), 0);
        due(y.count(2), 1);
    }

    private static void promise25Parting() {
        ChatThreads x = named();
        x.line(0, 0, 0, 0);
        x.line(30, 1, 1, 0);
        x.line(60, 5, 0, 0);
        x.line(1000, 6, 0, 0);
        // 40 - 1 for line 1; 2 has -1 and -2 only
        due(x.parting(0, 1), 40);
        due(x.parting(1, 0), 40);
        due(x.parting(0, 2), 0);
        due(x.parting(0, 3), 0);
        due(x.parting(0, 0), INVALID);
        due(x.parting(-1, 0), INVALID);
        due(x.parting(0, -1), INVALID);
        due(x.parting(4, 0), INVALID);
        due(x.parting(0, 4), INVALID);
        x.correct(1, 2, 0);
        due(x.parting(0, 2), NOT_FOUND);
        due(x.parting(1, 2), 40);
        due(x.count(11), 20);
        // both in a thread only from some threshold on: a greater one makes line 2 answer line 0
        ChatThreads y = new ChatThreads();
        y.set(4, 50);
        y.set(6, 1);
        y.line(0, 0, 0, 15);
        y.line(100, 1, 0, 15);
        due(y.score(1, 0), 100100);
        due(y.parting(0, 1), 101);
        y.set(6, 1000);
        due(y.score(1, 0), 100200);
        due(y.parting(0, 1), NOT_FOUND);
        y.set(0, 99);
        due(y.parting(0, 1), 0);
        // a score of 199 parts at the greatest threshold
        y.set(0, 100);
        y.set(6, 100);
        due(y.score(1, 0), 100199);
        due(y.parting(0, 1), 200);
    }

    private static void promise25PartingOfJoinedThreads() {
        // line 2 answers line 1 (50) and joins the thread of line 0 (40)
        ChatThreads x = named();
        x.set(7, 10);
        x.line(0, 0, 0, 0);
        x.line(0, 1, 0, 1);
        x.line(10, 3, 3, 1);
        due(x.parting(0, 1), 41);
        due(x.parting(0, 2), 41);
        due(x.parting(1, 2), 51);
        // without the joining line 1 answers line 0 by a score of 0
        x.set(7, 9);
        due(x.parting(0, 1), 1);
        // line 0 is the latest, it answers line 2 (38) and joins the thread of line 1 (37)
        ChatThreads y = named();
        y.line(90, 5, 7, 0);
        y.line(0, 0, 0, 0);
        y.line(10, 1, 0, 0);
        due(y.parting(0, 2), 39);
        due(y.parting(2, 1), 38);
        due(y.parting(1, 0), 38);
        ChatThreads z = meeting();
        due(z.parting(0, 1), 41);
        z.correct(1, 3, 1);
        due(z.parting(0, 1), 1);
        due(z.parting(1, 3), NOT_FOUND);
    }

    private static void promise26And27TypeAndClearText() {
        ChatThreads x = new ChatThreads();
        due(x.clearText(), 0);
        due(x.type(31), INVALID);
        due(x.type(127), INVALID);
        due(x.type(-1), INVALID);
        due(x.type(65536 + 65), INVALID);
        due(x.type(32), 1);
        due(x.type(126), 2);
        for (int n = 3; n <= 80; n++) {
            due(x.type('0'), n);
        }
        due(x.type('0'), LIMIT);
        due(x.type(31), INVALID);
        due(x.count(8), 80);
        due(x.count(7), 0);
        due(x.clearText(), 80);
        due(x.count(8), 0);
        due(x.clearText(), 0);
        due(x.type('l'), 1);
        due(x.fault(1), 1);
        // a text is no part of what is undone
        x.line(0, 0, 0, 0);
        x.type('x');
        x.undo();
        due(x.count(8), 2);
    }

    private static void promise28FaultOfForm() {
        ChatThreads x = new ChatThreads();
        due(x.fault(-1), INVALID);
        due(x.fault(2), INVALID);
        due(x.fault(0), NOT_FOUND);
        due(x.fault(1), NOT_FOUND);
        String[] bad = {"l", ";", "l0,0,0,0", "l0,0,0;", "l0,0,0,0,0;", "l,0,0,0;", "l0,0,0,;", "l0,0,0,0000000;",
            "l0000000,0,0,0;", "L0,0,0,0;", " l0,0,0,0;", "l 0,0,0,0;", "l0,0,0,0 ;", "l-1,0,0,0;", "l0;0;0;0;",
            "b", "b;", "b0", "b0,0;", "b0000000;", "a0;", "a0,;", "a,0;", "a0,0", "a0,0,0;", "n0;", "n0,0.",
            "0,0;", "c0;", "m0,0;", "o0,0;", "k0,0,0,0;", "l0,0,0,:;", "l0,0,0,/;", "l0.0.0.0;"};
        for (String text : bad) {
            due(faultOf(x, text), 1);
            due(faultOf(x, "l0,0,0,0;" + text), 91);
        }
        due(faultOf(x, "l0,0,0,0;;"), 91);
        // a text of 80 characters that ends within a number, and one that ends within an entry
        due(faultOf(x, "l0,0,0,0;".repeat(8) + "l0,0,0,0"), 721);
        due(faultOf(x, "l0,0,0,0;".repeat(8) + "b000000,"), 721);
        due(faultOf(x, "l0,0,0,0;".repeat(8) + "b000000;"), NOT_FOUND);
        due(faultOf(x, "l0,0,0,0;l0,0,0,0;l0,0,0,0;x"), 271);
        due(faultOf(x, "l000000,000000,000000,000000;"), NOT_FOUND);
        due(faultOf(x, "l0,0,0,0;b0;"), NOT_FOUND);
        due(faultOf(x, "l0,0,0,0;b000000;"), NOT_FOUND);
        due(x.count(0), 0);
        due(x.count(7), 0);
    }

    private static void promise28FaultOfNumbers() {
        ChatThreads x = new ChatThreads();
        due(faultOf(x, "l100000,11,65535,65535;"), NOT_FOUND);
        due(faultOf(x, "l100001,0,0,0;"), 2);
        due(faultOf(x, "l999999,0,0,0;"), 2);
        due(faultOf(x, "l0,12,0,0;"), 2);
        due(faultOf(x, "l0,0,65536,0;"), 2);
        due(faultOf(x, "l0,0,0,65536;"), 2);
        due(faultOf(x, "b0;"), 2);
        due(faultOf(x, "a0,0;"), 2);
        due(faultOf(x, "l0,0,0,0;b1;"), 92);
        due(faultOf(x, "l0,0,0,0;a0,1;"), 92);
        due(faultOf(x, "l0,0,0,0;a1,0;"), 92);
        due(faultOf(x, "l0,0,0,0;n0,1;"), 92);
        due(faultOf(x, "l0,0,0,0;n1,0;"), 92);
        // the first fault is told, whatever comes after it
        due(faultOf(x, "b0;x"), 2);
        due(faultOf(x, "l0,0,0,0;b0;b7;b0;"), 122);
    }

    private static void promise28FaultOfCorrections() {
        ChatThreads x = new ChatThreads();
        due(faultOf(x, "l0,0,0,0;l0,0,0,0;a1,0;"), NOT_FOUND);
        due(faultOf(x, "l0,0,0,0;l0,0,0,0;a0,1;"), 183);
        due(faultOf(x, "l0,0,0,0;l0,0,0,0;n0,1;"), 183);
        due(faultOf(x, "l0,0,0,0;l0,0,0,0;a1,1;"), 183);
        due(faultOf(x, "l9,0,0,0;l8,0,0,0;a1,0;"), 183);
        due(faultOf(x, "l9,0,0,0;l8,0,0,0;a0,1;n0,1;a0,1;"), 283);
        due(faultOf(x, "l9,0,0,0;l8,0,0,0;n0,1;a0,1;n0,1;"), 283);
        due(faultOf(x, "l9,0,0,0;b0;b00;"), 123);
        x.line(0, 0, 0, 0);
        x.correct(0, 0, 0);
        due(faultOf(x, "b0;"), 3);
        x.withdraw(0);
        due(faultOf(x, "b0;"), NOT_FOUND);
    }

    private static void promise28FaultOfLimits() {
        ChatThreads x = new ChatThreads();
        for (int n = 0; n < 28; n++) {
            x.line(n, 0, 0, 0);
        }
        due(faultOf(x, "l0,0,0,0;l0,0,0,0;"), NOT_FOUND);
        due(faultOf(x, "l0,0,0,0;l0,0,0,0;l0,0,0,0;"), 184);
        due(faultOf(x, "l0,0,0,0;l0,0,0,0;l0,12,0,0;"), 182);
        for (int n = 1; n <= 10; n++) {
            x.correct(1, n, 0);
        }
        due(faultOf(x, "b11;n11,0;"), NOT_FOUND);
        due(faultOf(x, "b11;n11,0;b1;"), 104);
        due(faultOf(x, "b11;n11,0;a2,1;"), 104);
        due(faultOf(x, "b11;n11,0;n2,1;"), 104);
        due(faultOf(x, "b11;n11,0;a1,0;"), 103);
        due(faultOf(x, "b11;n11,0;a1,28;"), 102);
        due(faultOf(x, "b11;n11,0;l0,0,0,0;"), NOT_FOUND);
    }

    private static void promise29Load() {
        ChatThreads x = new ChatThreads();
        due(x.load(), 0);
        due(x.count(7), 1);
        enter(x, "l7,1,2,3;l8,2,3,4;l9,3,4,5;n2,1;b1;a2,0;");
        due(x.load(), 6);
        due(x.count(7), 2);
        due(x.count(8), 40);
        due(x.count(0), 3);
        due(x.count(1), 3);
        due(x.lineOf(1, 0), 8);
        due(x.lineOf(1, 1), 2);
        due(x.lineOf(1, 2), 3);
        due(x.lineOf(1, 3), 4);
        due(x.lineOf(2, 6), 0);
        due(x.correction(0, 0), 2);
        due(x.correction(0, 1), 2);
        due(x.correction(0, 2), 1);
        due(x.correction(1, 0), 0);
        due(x.correction(1, 1), 1);
        due(x.correction(1, 2), NOT_FOUND);
        due(x.correction(2, 0), 1);
        due(x.correction(2, 2), 0);
        // the same text again: its lines are possible, its corrections are there already
        due(x.load(), NOT_POSSIBLE);
        due(x.count(0), 3);
        due(x.count(7), 2);
        due(x.fault(0), 27);
        due(x.fault(1), 3);
        due(x.undo(), 1);
        due(x.count(0), 0);
        due(x.count(1), 0);
        due(x.count(8), 40);
        x.clearText();
        enter(x, "l5,0,0,0;x");
        due(x.load(), NOT_POSSIBLE);
        due(x.count(0), 0);
        x.clearText();
        enter(x, "l000005,000011,065535,000000;");
        due(x.load(), 1);
        due(x.lineOf(0, 0), 5);
        due(x.lineOf(0, 1), 11);
        due(x.lineOf(0, 2), 65535);
        due(x.load(), 1);
        due(x.count(0), 2);
        // a row of loads is told by the history as one change each
        due(x.undo(), 2);
        due(x.count(0), 1);
    }

    private static void answersByScores() {
        ChatThreads x = named();
        x.line(0, 0, 0, 3);
        x.line(0, 1, 0, 3);
        x.line(600, 2, 0, 3);
        x.set(6, 1000);
        // of equal scores the latest in order; a gap as great as the window is no greater
        due(x.lineOf(2, 6), 1);
        x.set(0, 599);
        due(x.lineOf(2, 6), NOT_FOUND);
        x.set(0, 600);
        x.set(1, 21);
        due(x.lineOf(2, 6), NOT_FOUND);
        x.set(1, 20);
        due(x.lineOf(2, 6), 1);
        // a correction about another line says nothing of this one
        x.correct(2, 1, 0);
        x.correct(2, 2, 1);
        due(x.lineOf(2, 6), 0);
        x.withdraw(0);
        x.correct(1, 2, 1);
        due(x.lineOf(2, 6), 1);
        x.set(0, 0);
        due(x.lineOf(2, 6), 1);
        x.withdraw(1);
        due(x.lineOf(2, 6), NOT_FOUND);
        // no threshold is below 0, so a score below 0 answers nothing
        ChatThreads y = new ChatThreads();
        y.set(1, 0);
        y.line(0, 0, 0, 0);
        y.line(29, 1, 0, 0);
        y.line(59, 2, 0, 0);
        due(y.lineOf(1, 6), 0);
        due(y.lineOf(2, 6), NOT_FOUND);
    }

    private static void threadsThatAreJoined() {
        ChatThreads x = meeting();
        due(x.lineOf(3, 6), 2);
        due(x.lineOf(3, 8), 2);
        due(x.count(2), 1);
        due(x.count(3), 3);
        due(x.count(4), 2);
        due(x.threadOf(0, 0), 4);
        due(x.threadOf(0, 1), 15);
        due(x.threadOf(0, 6), 2);
        // they are one from then on: a later line that could join them joins nothing
        x.line(20, 4, 3, 0);
        due(x.lineOf(4, 6), 1);
        due(x.lineOf(4, 8), 0);
        due(x.count(4), 2);
        // threads 0 and 2 are joined, thread 1 keeps its lines and its number in order
        ChatThreads y = meeting();
        y.drop(3);
        y.line(10, 3, 5, 0);
        due(y.lineOf(3, 6), 2);
        due(y.lineOf(3, 8), 1);
        due(y.count(2), 2);
        due(y.lineOf(0, 5), 0);
        due(y.lineOf(1, 5), 1);
        due(y.lineOf(2, 5), 0);
        due(y.lineIn(0, 1), 2);
        due(y.lineIn(0, 2), 3);
    }

    private static void whatJoinsNoThreads() {
        ChatThreads x = meeting();
        due(x.count(2), 1);
        x.correct(2, 3, 0);
        due(x.lineOf(3, 8), 1);
        due(x.count(2), 2);
        x.correct(1, 3, 2);
        due(x.lineOf(3, 8), 0);
        due(x.count(2), 3);
        // scores: 40 and a word for line 1, 40 for line 0
        ChatThreads y = named();
        y.line(0, 0, 0, 0);
        y.line(0, 1, 0, 1);
        y.line(10, 3, 3, 1);
        due(y.lineOf(2, 6), 1);
        due(y.lineOf(2, 8), 0);
        y.set(7, 9);
        due(y.lineOf(2, 8), 0);
        y.set(7, 10);
        due(y.lineOf(2, 8), 1);
        y.set(1, 40);
        due(y.lineOf(2, 8), 1);
        y.set(1, 41);
        due(y.lineOf(2, 8), 0);
        // both lines are by one person, or not both persons are spoken to
        ChatThreads z = named();
        z.line(0, 0, 0, 0);
        z.line(0, 0, 0, 0);
        z.set(5, 0);
        z.line(10, 3, 1, 0);
        due(z.lineOf(2, 8), 0);
        z.line(11, 0, 0, 15);
        z.line(12, 1, 0, 15);
        z.correct(0, 4, 0);
        z.line(13, 5, 1, 15);
        z.set(2, 0);
        z.set(7, 100);
        due(z.lineOf(5, 6), 4);
        due(z.lineOf(5, 8), 0);
        z.set(2, 1);
        due(z.lineOf(5, 6), 3);
        due(z.lineOf(5, 8), 0);
        due(z.count(2), 4);
    }

    private static void whatIsGoneLeavesNothing() {
        ChatThreads x = fourLines();
        x.correct(1, 1, 0);
        x.correct(1, 2, 1);
        x.correct(1, 3, 2);
        x.drop(1);
        x.line(50, 9, 7, 9);
        x.correct(1, 3, 2);
        due(x.threadOf(1, 6), 3);
        due(x.threadOf(1, 1), 524);
        x.drop(3);
        due(x.count(2), 2);
        due(x.threadOf(1, 0), 2);
        due(x.threadOf(1, 1), 12);
        due(x.threadOf(1, 3), 2);
        due(x.threadOf(1, 4), 1);
        due(x.threadOf(1, 5), 1);
        due(x.threadOf(1, 6), 2);
        due(x.lineIn(1, 2), NOT_FOUND);
        due(x.inOrder(3), NOT_FOUND);
        due(x.count(2), 2);
        x.undo();
        due(x.count(2), 2);
        due(x.threadOf(1, 0), 3);
        due(x.lineOf(3, 6), 2);
        // what a dropped line said goes with it
        ChatThreads y = new ChatThreads();
        for (int n = 0; n < 4; n++) {
            y.line(n, n, n + 10, n + 20);
        }
        y.drop(1);
        for (int n = 1; n < 3; n++) {
            due(y.lineOf(n, 0), n + 1);
            due(y.lineOf(n, 1), n + 1);
            due(y.lineOf(n, 2), n + 11);
            due(y.lineOf(n, 3), n + 21);
        }
        // the times of names come back, too
        ChatThreads z = new ChatThreads();
        z.takes(1, 1, 70);
        z.takes(2, 2, 80);
        due(z.undo(), 1);
        z.line(60, 0, 2, 0);
        z.undo();
        due(z.takes(2, 2, 69), NOT_POSSIBLE);
        due(z.nameOf(1, 69), NOT_FOUND);
        due(z.nameOf(1, 70), 1);
        due(z.load(), 0);
        due(z.nameOf(1, 69), NOT_FOUND);
        z.line(50, 1, 0, 0);
        z.line(60, 3, 2, 0);
        due(z.threadsWith(1, 20), 2);
        // with a line that joins threads its joining goes
        ChatThreads w = meeting();
        due(w.count(4), 2);
        w.drop(3);
        due(w.count(4), 0);
        due(w.count(2), 3);
    }

    private static void lineZeroIsALineLikeOthers() {
        ChatThreads x = named();
        x.line(90, 5, 7, 0);
        x.line(0, 0, 0, 0);
        x.line(10, 1, 0, 0);
        due(x.lineOf(0, 6), 2);
        due(x.lineOf(0, 8), 1);
        due(x.count(4), 1);
        due(x.threadOf(0, 6), 2);
        due(x.answers(5, 1), 1);
        due(x.partner(5), 1);
        x.correct(1, 0, 1);
        due(x.partner(5), 0);
        due(x.count(5), 1);
        due(x.awake(90), 2);
    }

    private static void wildArguments() {
        int[] wild = {Integer.MIN_VALUE, Integer.MIN_VALUE + 1, -65536, Integer.MAX_VALUE, 1 << 30};
        ChatThreads x = meeting();
        x.correct(1, 3, 0);
        for (int w : wild) {
            due(x.takes(w, 0, 0), INVALID);
            due(x.takes(0, w, 0), INVALID);
            due(x.takes(0, 0, w), INVALID);
            due(x.nameOf(w, w), INVALID);
            due(x.whoHas(w, w), INVALID);
            due(x.line(w, 0, 0, 0), INVALID);
            due(x.line(0, 0, w, w), INVALID);
            due(x.drop(w), INVALID);
            due(x.lineOf(w, 0), INVALID);
            due(x.lineOf(0, w), INVALID);
            due(x.inOrder(w), w < 0 ? INVALID : NOT_FOUND);
            due(x.score(w, w), INVALID);
            due(x.reason(w, 0), INVALID);
            due(x.reason(0, w), INVALID);
            due(x.set(w, 0), INVALID);
            due(x.set(6, w), INVALID);
            due(x.count(w), INVALID);
            due(x.correct(w, 0, 0), INVALID);
            due(x.correct(1, w, 0), INVALID);
            due(x.correct(1, 1, w), INVALID);
            due(x.withdraw(w), INVALID);
            due(x.correction(w, 0), INVALID);
            due(x.correction(0, w), INVALID);
            due(x.threadOf(w, 0), INVALID);
            due(x.threadOf(0, w), INVALID);
            due(x.lineIn(w, 0), INVALID);
            due(x.lineIn(0, w), w < 0 ? INVALID : NOT_FOUND);
            due(x.busiest(w), w < 0 ? INVALID : NOT_FOUND);
            due(x.answers(w, 0), INVALID);
            due(x.partner(w), INVALID);
            due(x.awake(w), INVALID);
            due(x.threadsWith(w, w), INVALID);
            due(x.threadsWithout(w), INVALID);
            due(x.parting(w, w), INVALID);
            due(x.parting(0, w), INVALID);
            due(x.type(w), INVALID);
            due(x.fault(w), INVALID);
        }
        due(x.count(0), 4);
        due(x.count(1), 1);
    }
}

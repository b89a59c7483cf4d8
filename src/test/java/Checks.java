import java.lang.reflect.Method;
import java.lang.reflect.Modifier;
import java.util.ArrayList;
import java.util.Arrays;
import java.util.List;
import java.util.function.Supplier;
import java.util.function.ToIntFunction;

/** What the tests share: the comparing of answers, chats to begin with, and refused calls. */
abstract class Checks {
    static final int INVALID = -1;
    static final int NOT_POSSIBLE = -2;
    static final int LIMIT = -3;
    static final int NOT_FOUND = -4;

    private static final int CALLS_PER_OBJECT = 300;
    private static final int[] SOME_TIMES = {0, 10, 50, 500, 100000};
    private static final List<ToIntFunction<ChatThreads>> QUESTIONS = questions();

    private static int wrong = 0;

    interface Asked {
        int on(ChatThreads x, int value);
    }

    /** Runs all methods of a class that take nothing and return nothing: these are its tests. */
    static void runTestsOf(Class<?> tests) throws ReflectiveOperationException {
        int count = 0;
        for (Method method : tests.getDeclaredMethods()) {
            boolean isTest = Modifier.isStatic(method.getModifiers()) && !method.isSynthetic()
                && method.getParameterCount() == 0 && method.getReturnType() == void.class;
            if (isTest) {
                method.setAccessible(true);
                method.invoke(null);
                count++;
            }
        }
        System.out.println(tests.getSimpleName() + ": " + count + " tests, " + wrong + " wrong answers");
        if (wrong != 0 || count == 0) {
            System.exit(1);
        }
    }

    static void due(int got, int want) {
        if (got != want) {
            tell("answered " + got + ", due is " + want);
        }
    }

    private static void tell(String fault) {
        wrong++;
        System.out.println(caller() + ": " + fault);
    }

    private static StackTraceElement caller() {
        return Arrays.stream(Thread.currentThread().getStackTrace()).skip(1)
            .filter(place -> !place.getClassName().equals(Checks.class.getName())).findFirst().orElseThrow();
    }

    /** What `call` answers for what = 0, 1 and so on. */
    static void dueEach(ChatThreads x, Asked call, int... wanted) {
        for (int i = 0; i < wanted.length; i++) {
            due(call.on(x, i), wanted[i]);
        }
    }

    /** The argument may be from the least to the greatest, and no other one is taken. */
    static void range(Supplier<ChatThreads> made, Asked call, int least, int greatest) {
        for (int good : new int[] {least, greatest}) {
            if (call.on(made.get(), good) == INVALID) {
                tell("refused " + good);
            }
        }
        noneBeyond(made, call, least, greatest);
    }

    static void noneBeyond(Supplier<ChatThreads> made, Asked call, int least, int greatest) {
        for (int bad : new int[] {least - 1, greatest + 1, Integer.MIN_VALUE, Integer.MAX_VALUE}) {
            refused(made, x -> call.on(x, bad), INVALID);
        }
    }

    /** The call returns the error and changes nothing that any later call could tell. */
    static void refused(Supplier<ChatThreads> made, ToIntFunction<ChatThreads> call, int error) {
        due(call.applyAsInt(made.get()), error);
        same(made, () -> {
            ChatThreads x = made.get();
            call.applyAsInt(x);
            return x;
        });
    }

    /** The two chats answer the same now, after each of as many undos as there can be, and after a load. */
    static void same(Supplier<ChatThreads> one, Supplier<ChatThreads> other) {
        for (int undos = 0; undos <= 5; undos++) {
            int times = undos;
            due(sameNow(undone(one, times), undone(other, times)), 0);
        }
        due(sameNow(loaded(one), loaded(other)), 0);
    }

    private static Supplier<ChatThreads> undone(Supplier<ChatThreads> made, int times) {
        return () -> {
            ChatThreads x = made.get();
            for (int i = 0; i < times; i++) {
                x.undo();
            }
            return x;
        };
    }

    private static Supplier<ChatThreads> loaded(Supplier<ChatThreads> made) {
        return () -> {
            ChatThreads x = made.get();
            x.load();
            return x;
        };
    }

    /** In how many answers the chats differ, apart from the history's states. */
    static int sameNow(Supplier<ChatThreads> one, Supplier<ChatThreads> other) {
        int[] first = answersOf(one);
        int[] second = answersOf(other);
        int different = 0;
        for (int i = 0; i < first.length; i++) {
            different += first[i] == second[i] ? 0 : 1;
        }
        return different;
    }

    /** The object's use ends at 512 calls, so that a new one is made again and again. */
    private static int[] answersOf(Supplier<ChatThreads> made) {
        int[] answers = new int[QUESTIONS.size()];
        ChatThreads x = null;
        for (int i = 0; i < answers.length; i++) {
            if (i % CALLS_PER_OBJECT == 0) {
                x = made.get();
            }
            answers[i] = QUESTIONS.get(i).applyAsInt(x);
        }
        return answers;
    }

    private static List<ToIntFunction<ChatThreads>> questions() {
        List<ToIntFunction<ChatThreads>> all = new ArrayList<>();
        addFor(all, 18, 1, (x, n) -> x.count(n));
        addFor(all, 2, 1, (x, n) -> x.fault(n));
        addFor(all, 12, 5, (x, n) -> x.nameOf(n / 5, SOME_TIMES[n % 5]));
        addFor(all, 31, 10, (x, n) -> x.lineOf(n / 10, n % 10));
        addFor(all, 13, 4, (x, n) -> x.correction(n / 4, n % 4));
        addFor(all, 31, 7, (x, n) -> x.threadOf(n / 7, n % 7));
        addFor(all, 31, 1, (x, n) -> x.inOrder(n));
        addFor(all, 31, 1, (x, n) -> x.busiest(n));
        return all;
    }

    private static void addFor(List<ToIntFunction<ChatThreads>> all, int rows, int each, Asked question) {
        for (int i = 0; i < rows * each; i++) {
            int n = i;
            all.add(x -> question.on(x, n));
        }
    }

    static void enter(ChatThreads x, String text) {
        for (char sign : text.toCharArray()) {
            x.type(sign);
        }
    }

    /** The fault of a text as its position times 10 and its reason, or NOT_FOUND. */
    static int faultOf(ChatThreads x, String text) {
        x.clearText();
        enter(x, text);
        int position = x.fault(0);
        int reason = x.fault(1);
        return position < 0 || reason < 0 ? Math.max(position, reason) : position * 10 + reason;
    }

    /** Persons 0 to 11 have the names of their numbers from time 0 on. */
    static ChatThreads named() {
        ChatThreads x = new ChatThreads();
        for (int person = 0; person < 12; person++) {
            x.takes(person, person, 0);
        }
        return x;
    }

    /** Lines 0 to 3 at times 0 to 3 by persons 0 to 3, none of which answers another one. */
    static ChatThreads fourLines() {
        ChatThreads x = new ChatThreads();
        for (int i = 0; i < 4; i++) {
            x.line(i, i, 0, 0);
        }
        return x;
    }

    /** Lines 0 to 29 at times 0 to 29 by person 0, none of which answers another one. */
    static ChatThreads thirtyLines() {
        ChatThreads x = new ChatThreads();
        for (int i = 0; i < 30; i++) {
            x.line(i, 0, 0, 0);
        }
        return x;
    }

    /** Lines 0 to 2 by persons 0 to 2 at time 0; line 3 speaks to all of these, with a score of 40 each. */
    static ChatThreads meeting() {
        ChatThreads x = named();
        x.line(0, 0, 0, 0);
        x.line(0, 1, 0, 0);
        x.line(0, 2, 0, 0);
        x.line(10, 3, 7, 0);
        return x;
    }
}

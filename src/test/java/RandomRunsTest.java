import java.util.Arrays;
import java.util.Random;

/** Random runs of calls, each answer compared with that of PlainChat. The seeds are fixed. */
public final class RandomRunsTest {
    private static final int RUNS = 150;
    private static final int CALLS = 512;
    private static final String[] CALL_NAMES = {
        "takes", "nameOf", "whoHas", "line", "drop", "lineOf", "inOrder", "score", "reason", "set",
        "count", "undo", "correct", "withdraw", "correction", "threadOf", "lineIn", "busiest",
        "answers", "partner", "awake", "threadsWith", "threadsWithout", "parting", "type",
        "clearText", "fault", "load"};
    private static final int[] WILD = {
        Integer.MIN_VALUE, Integer.MAX_VALUE, -1, -2, 12, 13, 16, 17, 30, 31, 32, 126, 127, 200, 201,
        1000, 1001, 65535, 65536, 100000, 100001, 1 << 30, -65536};

    private final Random random;
    private final int span;
    private ChatThreads chat = new ChatThreads();
    private PlainChat plain = new PlainChat();
    private String queue = "";
    private int wrong = 0;

    private RandomRunsTest(long seed) {
        random = new Random(seed);
        span = seed % 3 == 0 ? 40 : seed % 3 == 1 ? 2000 : 100001;
    }

    public static void main(String[] args) {
        int wrong = 0;
        int runs = args.length > 0 ? Integer.parseInt(args[0]) : RUNS;
        for (int seed = 1; seed <= runs && wrong == 0; seed++) {
            wrong += new RandomRunsTest(seed).run(seed);
        }
        System.out.println(wrong == 0 ? "random runs: all answers are as due" : "random runs: wrong answers");
        if (wrong != 0) {
            System.exit(1);
        }
    }

    private int run(long seed) {
        for (int i = 0; i < CALLS && wrong == 0; i++) {
            int call = queue.isEmpty() ? kindOfCall() : 24;
            compare(seed, i, call, argumentsFor(call));
            if (i % 64 == 63) {
                sweep(seed, i);
            }
        }
        return wrong;
    }

    private int kindOfCall() {
        int pick = random.nextInt(100);
        if (pick < 22) {
            return 3;
        }
        if (pick < 30) {
            return 0;
        }
        if (pick < 40) {
            return 12;
        }
        if (pick < 43) {
            queue = entry();
            return 24;
        }
        return random.nextInt(CALL_NAMES.length);
    }

    private int below(int bound) {
        if (random.nextInt(40) == 0) {
            return WILD[random.nextInt(WILD.length)];
        }
        return random.nextInt(bound);
    }

    private int anyLine() {
        return below(plain.now.lines.size() + (random.nextInt(20) == 0 ? 2 : 0) + 1);
    }

    private int fewBits() {
        int bits = 0;
        for (int i = random.nextInt(6); i > 0; i--) {
            bits |= 1 << random.nextInt(random.nextBoolean() ? 5 : 16);
        }
        return random.nextInt(60) == 0 ? WILD[random.nextInt(WILD.length)] : bits;
    }

    private int somePerson() {
        return random.nextInt(8) == 0 ? below(12) : random.nextInt(4);
    }

    private int someName() {
        return random.nextInt(8) == 0 ? below(16) : random.nextInt(5);
    }

    private int settingValue(int what) {
        int[] bounds = {span, 80, 101, 101, 51, 101, 60, 40};
        if (what < 0 || what > 7 || random.nextInt(6) == 0) {
            return below(1002);
        }
        return random.nextInt(bounds[what]) + (what == 6 ? 1 : 0);
    }

    private int takeTime() {
        int last = plain.now.takes.isEmpty() ? 0 : plain.now.takes.get(plain.now.takes.size() - 1).time();
        return random.nextInt(5) == 0 ? below(span) : Math.min(100000, last + random.nextInt(span / 10 + 1));
    }

    private String entry() {
        int pick = random.nextInt(12);
        String a = number(anyLine());
        String b = number(anyLine());
        switch (pick) {
            case 0: case 1: case 2: case 3: case 4:
                return "l" + number(below(span)) + "," + somePerson() + "," + number(fewBits()) + ","
                    + number(fewBits()) + ";";
            case 5: return "b" + a + ";";
            case 6: case 7: return "a" + a + "," + b + ";";
            case 8: return "n" + a + "," + b + ";";
            case 9: return "l" + random.nextInt(2000000) + "," + somePerson() + ",1,2;";
            case 10: return random.nextBoolean() ? "a" + a + ";" : "l0,0,0;";
            default: return String.valueOf((char) (32 + random.nextInt(95)));
        }
    }

    private String number(int value) {
        return random.nextInt(5) == 0 ? String.format("%03d", value) : String.valueOf(value);
    }

    private int[] argumentsFor(int call) {
        int line = anyLine();
        int what = below(8);
        switch (call) {
            case 0: return new int[] {somePerson(), someName(), takeTime()};
            case 1: return new int[] {somePerson(), below(span)};
            case 2: return new int[] {someName(), below(span)};
            case 3: return new int[] {below(span), somePerson(), fewBits(), fewBits()};
            case 4: case 22: return new int[] {line};
            case 5: return new int[] {line, below(11)};
            case 6: case 17: return new int[] {anyLine()};
            case 7: case 8: case 23: return new int[] {line, anyLine()};
            case 9: case 21: return new int[] {what, settingValue(what)};
            case 10: return new int[] {below(19)};
            case 12: return new int[] {below(3), line, anyLine()};
            case 13: return new int[] {below(plain.now.fixes.size() + 1)};
            case 14: return new int[] {below(plain.now.fixes.size() + 1), below(5)};
            case 15: return new int[] {below(6), below(8)};
            case 16: return new int[] {below(6), below(8)};
            case 18: return new int[] {somePerson(), somePerson()};
            case 19: return new int[] {somePerson()};
            case 20: return new int[] {below(span)};
            case 24: return new int[] {nextCharacter()};
            case 26: return new int[] {below(3)};
            default: return new int[0];
        }
    }

    private int nextCharacter() {
        if (queue.isEmpty()) {
            return below(127);
        }
        int character = queue.charAt(0);
        queue = queue.substring(1);
        return character;
    }

    private void sweep(long seed, int index) {
        int lines = plain.now.lines.size();
        for (int a = -1; a <= lines; a++) {
            for (int what = -1; what <= 10; what++) {
                compare(seed, index, 5, new int[] {a, what});
            }
            compare(seed, index, 6, new int[] {a});
            compare(seed, index, 17, new int[] {a});
            compare(seed, index, 22, new int[] {a});
            for (int b = -1; b <= lines; b++) {
                compare(seed, index, 7, new int[] {a, b});
                compare(seed, index, 8, new int[] {a, b});
            }
        }
        compare(seed, index, 23, new int[] {random.nextInt(lines + 1), random.nextInt(lines + 1)});
        for (int thread = -1; thread <= plain.count(2); thread++) {
            for (int what = -1; what <= 7; what++) {
                compare(seed, index, 15, new int[] {thread, what});
            }
            for (int i = -1; i <= lines; i++) {
                compare(seed, index, 16, new int[] {thread, i});
            }
        }
        for (int fix = -1; fix <= plain.now.fixes.size(); fix++) {
            for (int what = -1; what <= 4; what++) {
                compare(seed, index, 14, new int[] {fix, what});
            }
        }
        for (int p = -1; p <= 12; p++) {
            compare(seed, index, 19, new int[] {p});
            for (int o = -1; o <= 12; o++) {
                compare(seed, index, 18, new int[] {p, o});
            }
        }
        for (int what = -1; what <= 18; what++) {
            compare(seed, index, 10, new int[] {what});
        }
    }

    private void compare(long seed, int index, int call, int[] a) {
        int got = ask(call, a);
        int want = askPlain(call, a);
        if (got != want) {
            wrong++;
            System.out.println("run " + seed + ", call " + index + ": " + CALL_NAMES[call]
                + Arrays.toString(a) + " answered " + got + ", due is " + want);
        }
    }

    private int ask(int call, int[] a) {
        switch (call) {
            case 0: return chat.takes(a[0], a[1], a[2]);
            case 1: return chat.nameOf(a[0], a[1]);
            case 2: return chat.whoHas(a[0], a[1]);
            case 3: return chat.line(a[0], a[1], a[2], a[3]);
            case 4: return chat.drop(a[0]);
            case 5: return chat.lineOf(a[0], a[1]);
            case 6: return chat.inOrder(a[0]);
            case 7: return chat.score(a[0], a[1]);
            case 8: return chat.reason(a[0], a[1]);
            case 9: return chat.set(a[0], a[1]);
            case 10: return chat.count(a[0]);
            case 11: return chat.undo();
            case 12: return chat.correct(a[0], a[1], a[2]);
            case 13: return chat.withdraw(a[0]);
            case 14: return chat.correction(a[0], a[1]);
            case 15: return chat.threadOf(a[0], a[1]);
            case 16: return chat.lineIn(a[0], a[1]);
            case 17: return chat.busiest(a[0]);
            case 18: return chat.answers(a[0], a[1]);
            case 19: return chat.partner(a[0]);
            case 20: return chat.awake(a[0]);
            case 21: return chat.threadsWith(a[0], a[1]);
            case 22: return chat.threadsWithout(a[0]);
            case 23: return chat.parting(a[0], a[1]);
            case 24: return chat.type(a[0]);
            case 25: return chat.clearText();
            case 26: return chat.fault(a[0]);
            default: return chat.load();
        }
    }

    private int askPlain(int call, int[] a) {
        switch (call) {
            case 0: return plain.takes(a[0], a[1], a[2]);
            case 1: return plain.nameOf(a[0], a[1]);
            case 2: return plain.whoHas(a[0], a[1]);
            case 3: return plain.line(a[0], a[1], a[2], a[3]);
            case 4: return plain.drop(a[0]);
            case 5: return plain.lineOf(a[0], a[1]);
            case 6: return plain.inOrder(a[0]);
            case 7: return plain.score(a[0], a[1]);
            case 8: return plain.reason(a[0], a[1]);
            case 9: return plain.set(a[0], a[1]);
            case 10: return plain.count(a[0]);
            case 11: return plain.undo();
            case 12: return plain.correct(a[0], a[1], a[2]);
            case 13: return plain.withdraw(a[0]);
            case 14: return plain.correction(a[0], a[1]);
            case 15: return plain.threadOf(a[0], a[1]);
            case 16: return plain.lineIn(a[0], a[1]);
            case 17: return plain.busiest(a[0]);
            case 18: return plain.answers(a[0], a[1]);
            case 19: return plain.partner(a[0]);
            case 20: return plain.awake(a[0]);
            case 21: return plain.threadsWith(a[0], a[1]);
            case 22: return plain.threadsWithout(a[0]);
            case 23: return plain.parting(a[0], a[1]);
            case 24: return plain.type(a[0]);
            case 25: return plain.clearText();
            case 26: return plain.fault(a[0]);
            default: return plain.load();
        }
    }
}

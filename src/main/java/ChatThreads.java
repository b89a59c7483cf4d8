/**
 * A log of a chat whose threads are told apart by who answers whom. What each call promises
 * stands in DOC.md; all rows are made in constructors, so no later call makes an object.
 */
public final class ChatThreads {
    public static final int INVALID_ARGUMENT = -1;
    public static final int NOT_POSSIBLE = -2;
    public static final int LIMIT_REACHED = -3;
    public static final int NOT_FOUND = -4;

    private static final int NONE = -1;

    private static final int PERSONS = 12;
    private static final int NAMES = 16;
    private static final int MAX_SET = 65535;
    private static final int MAX_TIME = 100000;
    private static final int MAX_TAKES = 20;
    private static final int MAX_LINES = 30;
    private static final int MAX_FIXES = 12;
    private static final int MAX_STATES = 4;
    private static final int MAX_TEXT = 80;
    private static final int MAX_DIGITS = 6;
    private static final int MAX_NUMBERS = 4;
    private static final int SCORE_OFFSET = 100000;

    private static final int WINDOW = 0;
    private static final int THRESHOLD = 1;
    private static final int NAME_WEIGHT = 2;
    private static final int CALL_WEIGHT = 3;
    private static final int WORD_WEIGHT = 4;
    private static final int OWN_WEIGHT = 5;
    private static final int FADING = 6;
    private static final int MARGIN = 7;
    private static final int SETTINGS = 8;
    private static final int[] LEAST_VALUES = {0, 0, 0, 0, 0, 0, 1, 0};
    private static final int[] FIRST_VALUES = {600, 20, 40, 25, 10, 15, 30, 5};
    private static final int[] GREATEST_VALUES = {100000, 200, 100, 100, 50, 100, 1000, 100};

    private static final int BEGINS = 0;
    private static final int ANSWERS = 1;
    private static final int ANSWERS_NOT = 2;

    private static final int POSSIBLE = 0;
    private static final int BAD_FORM = 1;
    private static final int BAD_NUMBER = 2;
    private static final int BAD_CORRECTION = 3;
    private static final int TOO_MANY = 4;

    private final Threads threads = new Threads();
    private final Log log = threads.log;
    private boolean threadsAreOld = true;
    private final History history = new History();
    private final Text text = new Text();
    private final Threads otherThreads = new Threads();
    private final Log otherLog = otherThreads.log;

    public ChatThreads() {
    }

    // ---- names and lines

    public int takes(int person, int name, int time) {
        if (!isPerson(person) || !isName(name) || !isTime(time)) {
            return INVALID_ARGUMENT;
        }
        int holder = log.holderAt(name, time);
        if (time < log.lastTakeTime() || (holder != NONE && holder != person)) {
            return NOT_POSSIBLE;
        }
        if (log.takeCount >= MAX_TAKES) {
            return LIMIT_REACHED;
        }
        beginChange();
        log.addTake(person, name, time);
        return log.takeCount;
    }

    public int nameOf(int person, int time) {
        if (!isPerson(person) || !isTime(time)) {
            return INVALID_ARGUMENT;
        }
        return orNotFound(log.nameAt(person, time));
    }

    public int whoHas(int name, int time) {
        if (!isName(name) || !isTime(time)) {
            return INVALID_ARGUMENT;
        }
        return orNotFound(log.holderAt(name, time));
    }

    public int line(int time, int person, int names, int words) {
        if (!isTime(time) || !isPerson(person) || !isSet(names) || !isSet(words)) {
            return INVALID_ARGUMENT;
        }
        if (log.lineCount >= MAX_LINES) {
            return LIMIT_REACHED;
        }
        beginChange();
        log.addLine(time, person, names, words);
        return log.lineCount - 1;
    }

    public int drop(int line) {
        if (!log.isLine(line)) {
            return INVALID_ARGUMENT;
        }
        beginChange();
        log.removeLine(line);
        return log.fixCount;
    }

    public int lineOf(int line, int what) {
        if (!log.isLine(line)) {
            return INVALID_ARGUMENT;
        }
        switch (what) {
            case 0:
                return log.times[line];
            case 1:
                return log.writers[line];
            case 2:
                return log.names[line];
            case 3:
                return log.words[line];
            case 4:
                return currentThreads().places[line];
            case 5:
                return currentThreads().numbers[line];
            case 6:
                return orNotFound(currentThreads().answered[line]);
            case 7:
                return currentThreads().answersTo(line);
            case 8:
                return currentThreads().joins[line];
            case 9:
                return currentThreads().spokenTo[line];
            default:
                return INVALID_ARGUMENT;
        }
    }

    public int inOrder(int index) {
        if (index < 0) {
            return INVALID_ARGUMENT;
        }
        return index < log.lineCount ? currentThreads().order[index] : NOT_FOUND;
    }

    public int score(int line, int earlier) {
        if (!log.isLine(line) || !log.isLine(earlier)) {
            return INVALID_ARGUMENT;
        }
        if (!log.isEarlier(earlier, line)) {
            return NOT_POSSIBLE;
        }
        return SCORE_OFFSET + currentThreads().scoreFor(line, earlier);
    }

    public int reason(int line, int other) {
        if (!log.isLine(line) || !log.isLine(other)) {
            return INVALID_ARGUMENT;
        }
        return currentThreads().reasonAgainst(line, other);
    }

    public int set(int what, int value) {
        if (!isSettingValue(what, value)) {
            return INVALID_ARGUMENT;
        }
        beginChange();
        int before = log.settings[what];
        log.settings[what] = value;
        return before;
    }

    public int count(int what) {
        if (what >= 10 && what < 10 + SETTINGS) {
            return log.settings[what - 10];
        }
        switch (what) {
            case 0:
                return log.lineCount;
            case 1:
                return log.fixCount;
            case 2:
                return currentThreads().threadCount;
            case 3:
                return currentThreads().beginnings();
            case 4:
                return currentThreads().allJoins();
            case 5:
                return log.fixedLines();
            case 6:
                return log.takeCount;
            case 7:
                return history.stateCount;
            case 8:
                return text.length;
            default:
                return INVALID_ARGUMENT;
        }
    }

    public int undo() {
        if (history.stateCount == 0) {
            return NOT_POSSIBLE;
        }
        history.takeBack(log);
        threadsAreOld = true;
        return history.stateCount;
    }

    // ---- corrections

    public int correct(int kind, int line, int earlier) {
        if (kind < BEGINS || kind > ANSWERS_NOT || !log.isLine(line)) {
            return INVALID_ARGUMENT;
        }
        int kept = kind == BEGINS ? NONE : earlier;
        if (kind != BEGINS && !log.isLine(kept)) {
            return INVALID_ARGUMENT;
        }
        if (!log.canBeFixed(kind, line, kept)) {
            return NOT_POSSIBLE;
        }
        if (log.fixCount >= MAX_FIXES) {
            return LIMIT_REACHED;
        }
        beginChange();
        log.addFix(kind, line, kept);
        return log.fixCount;
    }

    public int withdraw(int index) {
        if (!log.isFix(index)) {
            return INVALID_ARGUMENT;
        }
        beginChange();
        log.removeFix(index);
        return log.fixCount;
    }

    public int correction(int index, int what) {
        if (!log.isFix(index)) {
            return INVALID_ARGUMENT;
        }
        switch (what) {
            case 0:
                return log.fixKinds[index];
            case 1:
                return log.fixLines[index];
            case 2:
                return orNotFound(log.fixEarlier[index]);
            case 3:
                return currentThreads().fixMatters(index) ? 1 : 0;
            default:
                return INVALID_ARGUMENT;
        }
    }

    // ---- threads

    public int threadOf(int thread, int what) {
        Threads all = currentThreads();
        if (!all.isThread(thread)) {
            return INVALID_ARGUMENT;
        }
        switch (what) {
            case 0:
                return all.lengths[thread];
            case 1:
                return all.writersOf(thread);
            case 2:
                return orNotFound(all.memberOf(thread, 0));
            case 3:
                return all.lastLines[thread];
            case 4:
                return all.spanOf(thread);
            case 5:
                return all.greatestGapOf(thread);
            case 6:
                return all.longestRowOf(thread);
            default:
                return INVALID_ARGUMENT;
        }
    }

    public int lineIn(int thread, int index) {
        Threads all = currentThreads();
        if (!all.isThread(thread) || index < 0) {
            return INVALID_ARGUMENT;
        }
        return orNotFound(all.memberOf(thread, index));
    }

    public int busiest(int rank) {
        if (rank < 0) {
            return INVALID_ARGUMENT;
        }
        return orNotFound(currentThreads().ranked(rank));
    }

    public int answers(int person, int other) {
        if (!isPerson(person) || !isPerson(other)) {
            return INVALID_ARGUMENT;
        }
        return currentThreads().answersBetween(person, other);
    }

    public int partner(int person) {
        if (!isPerson(person)) {
            return INVALID_ARGUMENT;
        }
        int best = NONE;
        int most = 0;
        for (int other = 0; other < PERSONS; other++) {
            int found = other == person ? 0 : currentThreads().answersBetween(person, other);
            if (found > most) {
                best = other;
                most = found;
            }
        }
        return orNotFound(best);
    }

    public int awake(int time) {
        if (!isTime(time)) {
            return INVALID_ARGUMENT;
        }
        Threads all = currentThreads();
        int found = 0;
        for (int thread = 0; thread < all.threadCount; thread++) {
            if (all.isAwake(thread, time)) {
                found++;
            }
        }
        return found;
    }

    // ---- what if, which changes nothing

    public int threadsWith(int what, int value) {
        if (!isSettingValue(what, value)) {
            return INVALID_ARGUMENT;
        }
        otherLog.copyFrom(log);
        otherLog.settings[what] = value;
        return otherThreadCount();
    }

    public int threadsWithout(int line) {
        if (!log.isLine(line)) {
            return INVALID_ARGUMENT;
        }
        otherLog.copyFrom(log);
        otherLog.removeLine(line);
        return otherThreadCount();
    }

    public int parting(int line, int other) {
        if (!log.isLine(line) || !log.isLine(other) || line == other) {
            return INVALID_ARGUMENT;
        }
        otherLog.copyFrom(log);
        otherThreads.rateAll();
        for (int threshold = 0; threshold <= GREATEST_VALUES[THRESHOLD]; threshold++) {
            // a threshold just above no score that matters shuts out no more than the one before it
            if (threshold == 0 || otherThreads.scoreMatters(threshold - 1)) {
                otherLog.settings[THRESHOLD] = threshold;
                otherThreads.follow();
                if (otherThreads.numbers[line] != otherThreads.numbers[other]) {
                    return threshold;
                }
            }
        }
        return NOT_FOUND;
    }

    // ---- texts

    public int type(int character) {
        if (character < 32 || character > 126) {
            return INVALID_ARGUMENT;
        }
        if (text.length >= MAX_TEXT) {
            return LIMIT_REACHED;
        }
        text.add((char) character);
        return text.length;
    }

    public int clearText() {
        int before = text.length;
        text.length = 0;
        return before;
    }

    public int fault(int what) {
        if (what < 0 || what > 1) {
            return INVALID_ARGUMENT;
        }
        otherLog.copyFrom(log);
        if (text.doneOn(otherLog)) {
            return NOT_FOUND;
        }
        return what == 0 ? text.faultPosition : text.faultReason;
    }

    public int load() {
        otherLog.copyFrom(log);
        if (!text.doneOn(otherLog)) {
            return NOT_POSSIBLE;
        }
        beginChange();
        log.copyFrom(otherLog);
        return text.entryCount;
    }

    private static boolean isPerson(int person) {
        return person >= 0 && person < PERSONS;
    }

    private static boolean isName(int name) {
        return name >= 0 && name < NAMES;
    }

    private static boolean isTime(int time) {
        return time >= 0 && time <= MAX_TIME;
    }

    private static boolean isSet(int bits) {
        return bits >= 0 && bits <= MAX_SET;
    }

    private static boolean isIn(int bits, int number) {
        return (bits >> number & 1) == 1;
    }

    private static boolean isSettingValue(int what, int value) {
        return what >= 0 && what < SETTINGS
            && value >= LEAST_VALUES[what] && value <= GREATEST_VALUES[what];
    }

    private static int orNotFound(int number) {
        return number == NONE ? NOT_FOUND : number;
    }

    private void beginChange() {
        history.keep(log);
        threadsAreOld = true;
    }

    private Threads currentThreads() {
        if (threadsAreOld) {
            threads.rateAll();
            threads.follow();
            threadsAreOld = false;
        }
        return threads;
    }

    private int otherThreadCount() {
        otherThreads.rateAll();
        otherThreads.follow();
        return otherThreads.threadCount;
    }

    /** What a change changes: names taken, lines, corrections ("fixes") and settings. */
    private static final class Log {
        int takeCount = 0;
        final int[] takers = new int[MAX_TAKES];
        final int[] takenNames = new int[MAX_TAKES];
        final int[] takeTimes = new int[MAX_TAKES];

        int lineCount = 0;
        final int[] times = new int[MAX_LINES];
        final int[] writers = new int[MAX_LINES];
        final int[] names = new int[MAX_LINES];
        final int[] words = new int[MAX_LINES];

        int fixCount = 0;
        final int[] fixKinds = new int[MAX_FIXES];
        final int[] fixLines = new int[MAX_FIXES];
        final int[] fixEarlier = new int[MAX_FIXES];

        final int[] settings = new int[SETTINGS];

        Log() {
            System.arraycopy(FIRST_VALUES, 0, settings, 0, SETTINGS);
        }

        void copyFrom(Log other) {
            takeCount = other.takeCount;
            System.arraycopy(other.takers, 0, takers, 0, MAX_TAKES);
            System.arraycopy(other.takenNames, 0, takenNames, 0, MAX_TAKES);
            System.arraycopy(other.takeTimes, 0, takeTimes, 0, MAX_TAKES);
            lineCount = other.lineCount;
            System.arraycopy(other.times, 0, times, 0, MAX_LINES);
            System.arraycopy(other.writers, 0, writers, 0, MAX_LINES);
            System.arraycopy(other.names, 0, names, 0, MAX_LINES);
            System.arraycopy(other.words, 0, words, 0, MAX_LINES);
            fixCount = other.fixCount;
            System.arraycopy(other.fixKinds, 0, fixKinds, 0, MAX_FIXES);
            System.arraycopy(other.fixLines, 0, fixLines, 0, MAX_FIXES);
            System.arraycopy(other.fixEarlier, 0, fixEarlier, 0, MAX_FIXES);
            System.arraycopy(other.settings, 0, settings, 0, SETTINGS);
        }

        void addTake(int person, int name, int time) {
            if (takeCount < MAX_TAKES) {
                takers[takeCount] = person;
                takenNames[takeCount] = name;
                takeTimes[takeCount] = time;
                takeCount++;
            }
        }

        int lastTakeTime() {
            return takeCount == 0 ? 0 : takeTimes[takeCount - 1];
        }

        int nameAt(int person, int time) {
            for (int take = takeCount - 1; take >= 0; take--) {
                if (takers[take] == person && takeTimes[take] <= time) {
                    return takenNames[take];
                }
            }
            return NONE;
        }

        int holderAt(int name, int time) {
            for (int person = 0; person < PERSONS; person++) {
                if (nameAt(person, time) == name) {
                    return person;
                }
            }
            return NONE;
        }

        int personsNamedIn(int line) {
            int persons = 0;
            int seen = 0;
            for (int take = takeCount - 1; take >= 0; take--) {
                int person = 1 << takers[take];
                // a person's last name by then is the one that counts
                if (takeTimes[take] <= times[line] && (seen & person) == 0) {
                    seen |= person;
                    if (isIn(names[line], takenNames[take])) {
                        persons |= person;
                    }
                }
            }
            return persons;
        }

        boolean isLine(int line) {
            return line >= 0 && line < lineCount;
        }

        boolean isEarlier(int line, int than) {
            return times[line] < times[than] || (times[line] == times[than] && line < than);
        }

        void addLine(int time, int person, int spoken, int said) {
            if (lineCount < MAX_LINES) {
                times[lineCount] = time;
                writers[lineCount] = person;
                names[lineCount] = spoken;
                words[lineCount] = said;
                lineCount++;
            }
        }

        void removeLine(int line) {
            for (int fix = fixCount - 1; fix >= 0; fix--) {
                if (fixLines[fix] == line || fixEarlier[fix] == line) {
                    removeFix(fix);
                }
            }
            for (int fix = 0; fix < fixCount; fix++) {
                fixLines[fix] = numberWithout(line, fixLines[fix]);
                fixEarlier[fix] = numberWithout(line, fixEarlier[fix]);
            }
            for (int i = line + 1; i < lineCount; i++) {
                times[i - 1] = times[i];
                writers[i - 1] = writers[i];
                names[i - 1] = names[i];
                words[i - 1] = words[i];
            }
            lineCount--;
        }

        private static int numberWithout(int removed, int line) {
            return line > removed ? line - 1 : line;
        }

        boolean isFix(int fix) {
            return fix >= 0 && fix < fixCount;
        }

        boolean canBeFixed(int kind, int line, int earlier) {
            if (kind != BEGINS && !isEarlier(earlier, line)) {
                return false;
            }
            return fixLike(kind, line, earlier) == NONE;
        }

        int fixLike(int kind, int line, int earlier) {
            for (int fix = 0; fix < fixCount; fix++) {
                if (fixKinds[fix] == kind && fixLines[fix] == line && fixEarlier[fix] == earlier) {
                    return fix;
                }
            }
            return NONE;
        }

        /** The earlier line is NONE for the kind 0, so that no line is taken for it. */
        void addFix(int kind, int line, int earlier) {
            if (fixCount < MAX_FIXES) {
                fixKinds[fixCount] = kind;
                fixLines[fixCount] = line;
                fixEarlier[fixCount] = earlier;
                fixCount++;
            }
        }

        void removeFix(int removed) {
            for (int fix = removed + 1; fix < fixCount; fix++) {
                fixKinds[fix - 1] = fixKinds[fix];
                fixLines[fix - 1] = fixLines[fix];
                fixEarlier[fix - 1] = fixEarlier[fix];
            }
            fixCount--;
        }

        /** The correction of the kinds 0 and 1 that counts for a line. */
        int countingFix(int line) {
            for (int fix = fixCount - 1; fix >= 0; fix--) {
                if (fixLines[fix] == line && fixKinds[fix] != ANSWERS_NOT) {
                    return fix;
                }
            }
            return NONE;
        }

        int fixedLines() {
            int found = 0;
            for (int line = 0; line < lineCount; line++) {
                if (countingFix(line) != NONE) {
                    found++;
                }
            }
            return found;
        }
    }

    /** The states before the latest changes, the oldest one first. */
    private static final class History {
        int stateCount = 0;
        private final Log[] states = new Log[MAX_STATES];

        History() {
            for (int i = 0; i < MAX_STATES; i++) {
                states[i] = new Log();
            }
        }

        void keep(Log log) {
            if (stateCount == MAX_STATES) {
                dropOldest();
            }
            Log state = states[stateCount];
            if (state != null) {
                state.copyFrom(log);
                stateCount++;
            }
        }

        void takeBack(Log log) {
            if (stateCount > 0) {
                stateCount--;
                Log state = states[stateCount];
                if (state != null) {
                    log.copyFrom(state);
                }
            }
        }

        private void dropOldest() {
            Log oldest = states[0];
            for (int i = 1; i < MAX_STATES; i++) {
                states[i - 1] = states[i];
            }
            states[MAX_STATES - 1] = oldest;
            stateCount--;
        }
    }

    /** What follows from a log: the order, scores, answers and threads of its lines. */
    private static final class Threads {
        final Log log = new Log();
        final int[] order = new int[MAX_LINES];
        final int[] places = new int[MAX_LINES];
        final int[] spokenTo = new int[MAX_LINES];
        private final int[] scores = new int[MAX_LINES * MAX_LINES];
        private final int[] fixes = new int[MAX_LINES];
        private final int[] choices = new int[MAX_LINES];
        private final int[] bests = new int[MAX_LINES];
        private final int[] rivals = new int[MAX_LINES];
        final int[] answered = new int[MAX_LINES];
        final int[] joins = new int[MAX_LINES];
        private final int[] rows = new int[MAX_LINES];
        private final int[] firstPlaces = new int[MAX_LINES];
        final int[] numbers = new int[MAX_LINES];
        int threadCount = 0;
        final int[] lengths = new int[MAX_LINES];
        final int[] lastLines = new int[MAX_LINES];

        /** Finds anew what no threshold changes. */
        void rateAll() {
            putInOrder();
            for (int line = 0; line < log.lineCount; line++) {
                spokenTo[line] = log.personsNamedIn(line);
            }
            for (int at = 0; at < log.lineCount; at++) {
                int line = order[at];
                for (int before = 0; before < at; before++) {
                    rate(line, order[before]);
                }
                fixes[line] = log.countingFix(line);
                choices[line] = choicesFor(line);
                bests[line] = fixes[line] == NONE ? bestOf(choices[line], line) : NONE;
                rivals[line] = rivalsFor(line);
            }
        }

        private void putInOrder() {
            for (int line = 0; line < log.lineCount; line++) {
                int at = line;
                while (at > 0 && log.times[order[at - 1]] > log.times[line]) {
                    order[at] = order[at - 1];
                    at--;
                }
                order[at] = line;
            }
            for (int at = 0; at < log.lineCount; at++) {
                places[order[at]] = at;
            }
        }

        private void rate(int line, int earlier) {
            int sum = 0;
            if (speaksTo(line, log.writers[earlier])) {
                sum += log.settings[NAME_WEIGHT];
            }
            if (speaksTo(earlier, log.writers[line])) {
                sum += log.settings[CALL_WEIGHT];
            }
            sum += log.settings[WORD_WEIGHT] * Integer.bitCount(log.words[line] & log.words[earlier]);
            if (log.writers[line] == log.writers[earlier]) {
                sum += log.settings[OWN_WEIGHT];
            }
            int fading = log.settings[FADING];
            if (fading > 0) {
                sum -= gapOf(line, earlier) / fading;
            }
            scores[line * MAX_LINES + earlier] = sum;
        }

        private boolean speaksTo(int line, int person) {
            return isIn(spokenTo[line], person);
        }

        int scoreFor(int line, int earlier) {
            return scores[line * MAX_LINES + earlier];
        }

        int gapOf(int line, int earlier) {
            return log.times[line] - log.times[earlier];
        }

        /** The set of earlier lines that the line might answer if the threshold let it. */
        private int choicesFor(int line) {
            int found = 0;
            for (int at = 0; at < places[line]; at++) {
                if (isInWindow(line, order[at])) {
                    found |= 1 << order[at];
                }
            }
            for (int fix = 0; fix < log.fixCount; fix++) {
                if (log.fixKinds[fix] == ANSWERS_NOT && log.fixLines[fix] == line) {
                    found &= ~(1 << log.fixEarlier[fix]);
                }
            }
            return found;
        }

        private boolean isInWindow(int line, int earlier) {
            return gapOf(line, earlier) <= log.settings[WINDOW];
        }

        /** Of a set of earlier lines the one with the greatest score, the latest of several. */
        private int bestOf(int set, int line) {
            int best = NONE;
            for (int at = 0; at < places[line]; at++) {
                int earlier = order[at];
                if (isIn(set, earlier)
                    && (best == NONE || scoreFor(line, earlier) >= scoreFor(line, best))) {
                    best = earlier;
                }
            }
            return best;
        }

        /** The set of lines whose threads a line joins with that of its best one. */
        private int rivalsFor(int line) {
            int best = bests[line];
            if (best == NONE || !speaksTo(line, log.writers[best])) {
                return 0;
            }
            int least = scoreFor(line, best) - log.settings[MARGIN];
            int found = 0;
            for (int at = 0; at < places[line]; at++) {
                int other = order[at];
                if (isIn(choices[line], other) && scoreFor(line, other) >= least
                    && speaksTo(line, log.writers[other]) && log.writers[other] != log.writers[best]) {
                    found |= 1 << other;
                }
            }
            return found;
        }

        /** Tells whether the score is one at which a line answers or joins, if the threshold lets it. */
        boolean scoreMatters(int score) {
            for (int line = 0; line < log.lineCount; line++) {
                if (bests[line] != NONE && scoreFor(line, bests[line]) == score) {
                    return true;
                }
                for (int other = 0; rivals[line] != 0 && other < log.lineCount; other++) {
                    if (isIn(rivals[line], other) && scoreFor(line, other) == score) {
                        return true;
                    }
                }
            }
            return false;
        }

        /** Finds answers and threads anew by the threshold. */
        void follow() {
            for (int at = 0; at < log.lineCount; at++) {
                addToThread(order[at]);
            }
            threadCount = 0;
            for (int at = 0; at < log.lineCount; at++) {
                numberThreadAt(at);
            }
        }

        private void numberThreadAt(int at) {
            int line = order[at];
            int thread = threadCount;
            if (firstPlaces[line] == at) {
                lengths[thread] = 0;
                threadCount++;
            } else {
                thread = numbers[order[firstPlaces[line]]];
            }
            numbers[line] = thread;
            lengths[thread]++;
            lastLines[thread] = line;
        }

        private void addToThread(int line) {
            int answer = answerOf(line);
            answered[line] = answer;
            joins[line] = 0;
            if (answer == NONE) {
                rows[line] = 1;
                firstPlaces[line] = places[line];
                return;
            }
            rows[line] = rows[answer] + 1;
            firstPlaces[line] = firstPlaces[answer];
            if (rivals[line] != 0) {
                joinRivals(line);
            }
        }

        private int answerOf(int line) {
            if (fixes[line] != NONE) {
                return log.fixEarlier[fixes[line]];
            }
            return isPassed(line, bests[line]) ? bests[line] : NONE;
        }

        private boolean isPassed(int line, int earlier) {
            return earlier != NONE && scoreFor(line, earlier) >= log.settings[THRESHOLD];
        }

        /** In whatever sequence the rivals are gone through, the threads that are joined are the same. */
        private void joinRivals(int line) {
            for (int at = 0; at < places[line]; at++) {
                int other = order[at];
                if (isIn(rivals[line], other) && firstPlaces[other] != firstPlaces[line]
                    && isPassed(line, other)) {
                    join(firstPlaces[line], firstPlaces[other], places[line]);
                    joins[line]++;
                }
            }
        }

        private void join(int first, int second, int lastPlace) {
            int kept = Math.min(first, second);
            int gone = Math.max(first, second);
            for (int at = 0; at <= lastPlace; at++) {
                if (firstPlaces[order[at]] == gone) {
                    firstPlaces[order[at]] = kept;
                }
            }
        }

        int reasonAgainst(int line, int other) {
            if (!log.isEarlier(other, line)) {
                return 1;
            }
            if (fixes[line] != NONE) {
                return answered[line] == other ? 0 : 2;
            }
            if (log.fixLike(ANSWERS_NOT, line, other) != NONE) {
                return 3;
            }
            if (!isInWindow(line, other)) {
                return 4;
            }
            if (!isPassed(line, other)) {
                return 5;
            }
            return answered[line] == other ? 0 : 6;
        }

        boolean fixMatters(int fix) {
            int line = log.fixLines[fix];
            if (log.fixKinds[fix] != ANSWERS_NOT) {
                return fixes[line] == fix;
            }
            int earlier = log.fixEarlier[fix];
            return fixes[line] == NONE && isInWindow(line, earlier) && isPassed(line, earlier)
                && bestOf(choices[line] | 1 << earlier, line) == earlier;
        }

        int answersTo(int line) {
            int found = 0;
            for (int other = 0; other < log.lineCount; other++) {
                if (answered[other] == line) {
                    found++;
                }
            }
            return found;
        }

        int answersBetween(int person, int other) {
            int found = 0;
            for (int line = 0; line < log.lineCount; line++) {
                int answer = answered[line];
                if (answer != NONE && log.writers[line] == person && log.writers[answer] == other) {
                    found++;
                }
            }
            return found;
        }

        int beginnings() {
            return answersTo(NONE);
        }

        int allJoins() {
            int sum = 0;
            for (int line = 0; line < log.lineCount; line++) {
                sum += joins[line];
            }
            return sum;
        }

        boolean isThread(int thread) {
            return thread >= 0 && thread < threadCount;
        }

        int memberOf(int thread, int index) {
            int seen = 0;
            for (int at = 0; at < log.lineCount; at++) {
                if (numbers[order[at]] == thread) {
                    if (seen == index) {
                        return order[at];
                    }
                    seen++;
                }
            }
            return NONE;
        }

        int writersOf(int thread) {
            int persons = 0;
            for (int line = 0; line < log.lineCount; line++) {
                if (numbers[line] == thread) {
                    persons |= 1 << log.writers[line];
                }
            }
            return persons;
        }

        int spanOf(int thread) {
            int first = memberOf(thread, 0);
            return first == NONE ? 0 : gapOf(lastLines[thread], first);
        }

        int greatestGapOf(int thread) {
            int greatest = 0;
            int before = NONE;
            for (int at = 0; at < log.lineCount; at++) {
                int line = order[at];
                if (numbers[line] == thread) {
                    if (before != NONE) {
                        greatest = Math.max(greatest, gapOf(line, before));
                    }
                    before = line;
                }
            }
            return greatest;
        }

        int longestRowOf(int thread) {
            int longest = 0;
            for (int line = 0; line < log.lineCount; line++) {
                if (numbers[line] == thread) {
                    longest = Math.max(longest, rows[line]);
                }
            }
            return longest;
        }

        int ranked(int rank) {
            for (int thread = 0; thread < threadCount; thread++) {
                int ahead = 0;
                for (int other = 0; other < threadCount; other++) {
                    if (isBusier(other, thread)) {
                        ahead++;
                    }
                }
                if (ahead == rank) {
                    return thread;
                }
            }
            return NONE;
        }

        private boolean isBusier(int thread, int than) {
            int more = lengths[thread] - lengths[than];
            if (more != 0) {
                return more > 0;
            }
            return log.isEarlier(lastLines[than], lastLines[thread]);
        }

        boolean isAwake(int thread, int time) {
            for (int line = 0; line < log.lineCount; line++) {
                if (numbers[line] == thread && log.times[line] <= time
                    && log.times[line] > time - log.settings[WINDOW]) {
                    return true;
                }
            }
            return false;
        }
    }

    /** The text, and what came of doing its entries. */
    private static final class Text {
        int length = 0;
        private final char[] signs = new char[MAX_TEXT];
        int entryCount = 0;
        int faultPosition = 0;
        int faultReason = POSSIBLE;
        private char letter = ' ';
        private int position = 0;
        private final int[] numbers = new int[MAX_NUMBERS];

        void add(char sign) {
            if (length < MAX_TEXT) {
                signs[length] = sign;
                length++;
            }
        }

        /** Does the entries up to the first fault; tells whether there is none. */
        boolean doneOn(Log log) {
            position = 0;
            entryCount = 0;
            for (int entry = 0; entry < MAX_TEXT && position < length; entry++) {
                faultPosition = position;
                faultReason = readEntry() ? entryFault(log) : BAD_FORM;
                if (faultReason != POSSIBLE) {
                    return false;
                }
                doEntry(log);
                entryCount++;
            }
            return true;
        }

        private boolean readEntry() {
            letter = signs[position];
            position++;
            int due = numbersDue();
            for (int i = 0; i < due; i++) {
                numbers[i] = readNumber();
                char sign = i == due - 1 ? ';' : ',';
                if (numbers[i] == NONE || position >= length || signs[position] != sign) {
                    return false;
                }
                position++;
            }
            return due > 0;
        }

        private int numbersDue() {
            if (letter == 'l') {
                return 4;
            }
            if (letter == 'b') {
                return 1;
            }
            return letter == 'a' || letter == 'n' ? 2 : 0;
        }

        private int readNumber() {
            int value = 0;
            int digits = 0;
            while (digits < MAX_DIGITS && position < length
                && signs[position] >= '0' && signs[position] <= '9') {
                value = value * 10 + (signs[position] - '0');
                digits++;
                position++;
            }
            return digits == 0 ? NONE : value;
        }

        private int entryFault(Log log) {
            if (letter == 'l') {
                return lineFault(log);
            }
            int kind = kindOfFix();
            int earlier = earlierOfFix();
            if (!log.isLine(numbers[0]) || (kind != BEGINS && !log.isLine(earlier))) {
                return BAD_NUMBER;
            }
            if (!log.canBeFixed(kind, numbers[0], earlier)) {
                return BAD_CORRECTION;
            }
            return log.fixCount >= MAX_FIXES ? TOO_MANY : POSSIBLE;
        }

        private int lineFault(Log log) {
            if (!isTime(numbers[0]) || !isPerson(numbers[1]) || !isSet(numbers[2]) || !isSet(numbers[3])) {
                return BAD_NUMBER;
            }
            return log.lineCount >= MAX_LINES ? TOO_MANY : POSSIBLE;
        }

        private int kindOfFix() {
            if (letter == 'b') {
                return BEGINS;
            }
            return letter == 'a' ? ANSWERS : ANSWERS_NOT;
        }

        private int earlierOfFix() {
            return letter == 'b' ? NONE : numbers[1];
        }

        private void doEntry(Log log) {
            if (letter == 'l') {
                log.addLine(numbers[0], numbers[1], numbers[2], numbers[3]);
            } else {
                log.addFix(kindOfFix(), numbers[0], earlierOfFix());
            }
        }
    }
}

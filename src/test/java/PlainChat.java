import java.util.ArrayList;
import java.util.Arrays;
import java.util.List;
import java.util.TreeSet;

/**
 * The document once more, written the slow way with lists and sets and by another plan than the
 * class, so that random runs of calls can be compared.
 */
final class PlainChat {
    record Take(int person, int name, int time) {}

    record Line(int time, int person, int names, int words) {}

    /** Lines are held themselves, not by number, so that numbers need no mending. */
    static final class Fix {
        final int kind;
        final Line line;
        final Line earlier;

        Fix(int kind, Line line, Line earlier) {
            this.kind = kind;
            this.line = line;
            this.earlier = earlier;
        }
    }

    static final class State {
        List<Take> takes = new ArrayList<>();
        List<Line> lines = new ArrayList<>();
        List<Fix> fixes = new ArrayList<>();
        int[] settings = {600, 20, 40, 25, 10, 15, 30, 5};

        State copy() {
            State s = new State();
            s.takes = new ArrayList<>(takes);
            s.lines = new ArrayList<>(lines);
            s.fixes = new ArrayList<>(fixes);
            s.settings = settings.clone();
            return s;
        }

        int indexOf(Line line) {
            for (int i = 0; i < lines.size(); i++) {
                if (lines.get(i) == line) {
                    return i;
                }
            }
            throw new IllegalStateException("no such line");
        }

        List<Line> sorted() {
            List<Line> all = new ArrayList<>(lines);
            all.sort((a, b) -> Integer.compare(a.time, b.time));
            return all;
        }

        int place(Line line) {
            List<Line> all = sorted();
            for (int i = 0; i < all.size(); i++) {
                if (all.get(i) == line) {
                    return i;
                }
            }
            throw new IllegalStateException("no such line");
        }

        int[] namesAt(int time) {
            int[] names = new int[12];
            Arrays.fill(names, -1);
            for (Take take : takes) {
                if (take.time <= time) {
                    names[take.person] = take.name;
                }
            }
            return names;
        }

        boolean speaks(Line line, int person) {
            int name = namesAt(line.time)[person];
            return name >= 0 && (line.names & (1 << name)) != 0;
        }

        int score(Line line, Line earlier) {
            int sum = 0;
            sum += speaks(line, earlier.person) ? settings[2] : 0;
            sum += speaks(earlier, line.person) ? settings[3] : 0;
            for (int w = 0; w < 16; w++) {
                if ((line.words & (1 << w)) != 0 && (earlier.words & (1 << w)) != 0) {
                    sum += settings[4];
                }
            }
            sum += line.person == earlier.person ? settings[5] : 0;
            return sum - (line.time - earlier.time) / settings[6];
        }

        Fix counting(Line line) {
            Fix found = null;
            for (Fix fix : fixes) {
                if (fix.kind < 2 && fix.line == line) {
                    found = fix;
                }
            }
            return found;
        }

        boolean hasFix(int kind, Line line, Line earlier) {
            for (Fix fix : fixes) {
                if (fix.kind == kind && fix.line == line && (kind == 0 || fix.earlier == earlier)) {
                    return true;
                }
            }
            return false;
        }

        /** Lines that a line might answer, the best first. */
        List<Line> possible(Line line) {
            List<Line> found = new ArrayList<>();
            for (Line other : sorted()) {
                if (other == line) {
                    break;
                }
                if (line.time - other.time <= settings[0] && !hasFix(2, line, other)
                    && score(line, other) >= settings[1]) {
                    found.add(0, other);
                }
            }
            found.sort((a, b) -> Integer.compare(score(line, b), score(line, a)));
            return found;
        }

        Line answer(Line line) {
            Fix fix = counting(line);
            if (fix != null) {
                return fix.kind == 0 ? null : fix.earlier;
            }
            List<Line> all = possible(line);
            return all.isEmpty() ? null : all.get(0);
        }

        void withdrawAbout(Line line) {
            fixes.removeIf(fix -> fix.line == line || fix.earlier == line);
        }

        State without(Line line) {
            State s = copy();
            s.lines.removeIf(l -> l == line);
            s.withdrawAbout(line);
            return s;
        }

        State with(int what, int value) {
            State s = copy();
            s.settings[what] = value;
            return s;
        }
    }

    /** Answers and threads of a state. */
    static final class Found {
        final State state;
        final List<List<Line>> threads = new ArrayList<>();
        final int[] joins;
        final Line[] answers;

        Found(State state) {
            this.state = state;
            joins = new int[state.lines.size()];
            answers = new Line[state.lines.size()];
            List<Line> sorted = state.sorted();
            for (Line line : sorted) {
                add(line);
            }
            for (List<Line> thread : threads) {
                thread.sort((a, b) -> Integer.compare(state.place(a), state.place(b)));
            }
            threads.sort((a, b) -> Integer.compare(state.place(a.get(0)), state.place(b.get(0))));
        }

        private void add(Line line) {
            Line answer = state.answer(line);
            int index = state.indexOf(line);
            answers[index] = answer;
            if (answer == null) {
                List<Line> thread = new ArrayList<>();
                thread.add(line);
                threads.add(thread);
                return;
            }
            List<Line> own = threads.get(of(answer));
            own.add(line);
            if (state.counting(line) != null) {
                return;
            }
            for (Line other : state.possible(line)) {
                if (state.score(line, answer) - state.score(line, other) > state.settings[7]
                    || !state.speaks(line, answer.person) || !state.speaks(line, other.person)
                    || answer.person == other.person) {
                    continue;
                }
                List<Line> theirs = threads.get(of(other));
                if (theirs != own) {
                    own.addAll(theirs);
                    threads.removeIf(thread -> thread == theirs);
                    joins[index]++;
                }
            }
        }

        int of(Line line) {
            for (int i = 0; i < threads.size(); i++) {
                for (Line member : threads.get(i)) {
                    if (member == line) {
                        return i;
                    }
                }
            }
            throw new IllegalStateException("no thread");
        }

        int row(Line line) {
            Line answer = answers[state.indexOf(line)];
            return answer == null ? 1 : 1 + row(answer);
        }
    }

    State now = new State();
    final List<State> history = new ArrayList<>();
    String text = "";
    private Found latest = null;

    private void change(State next) {
        history.add(now);
        if (history.size() > 4) {
            history.remove(0);
        }
        now = next;
    }

    /** A state that a change has made is not altered again. */
    private Found found() {
        if (latest == null || latest.state != now) {
            latest = new Found(now);
        }
        return latest;
    }

    private static boolean in(int value, int least, int greatest) {
        return value >= least && value <= greatest;
    }

    private boolean noLine(int line) {
        return !in(line, 0, now.lines.size() - 1);
    }

    private static boolean badSetting(int what, int value) {
        int[] greatest = {100000, 200, 100, 100, 50, 100, 1000, 100};
        return !in(what, 0, 7) || !in(value, what == 6 ? 1 : 0, greatest[what]);
    }

    int takes(int person, int name, int time) {
        if (!in(person, 0, 11) || !in(name, 0, 15) || !in(time, 0, 100000)) {
            return -1;
        }
        for (Take take : now.takes) {
            if (take.time > time) {
                return -2;
            }
        }
        int[] names = now.namesAt(time);
        for (int p = 0; p < 12; p++) {
            if (p != person && names[p] == name) {
                return -2;
            }
        }
        if (now.takes.size() == 20) {
            return -3;
        }
        State next = now.copy();
        next.takes.add(new Take(person, name, time));
        change(next);
        return now.takes.size();
    }

    int nameOf(int person, int time) {
        if (!in(person, 0, 11) || !in(time, 0, 100000)) {
            return -1;
        }
        int name = now.namesAt(time)[person];
        return name < 0 ? -4 : name;
    }

    int whoHas(int name, int time) {
        if (!in(name, 0, 15) || !in(time, 0, 100000)) {
            return -1;
        }
        for (int p = 0; p < 12; p++) {
            if (now.namesAt(time)[p] == name) {
                return p;
            }
        }
        return -4;
    }

    int line(int time, int person, int names, int words) {
        if (!in(time, 0, 100000) || !in(person, 0, 11) || !in(names, 0, 65535) || !in(words, 0, 65535)) {
            return -1;
        }
        if (now.lines.size() == 30) {
            return -3;
        }
        State next = now.copy();
        next.lines.add(new Line(time, person, names, words));
        change(next);
        return now.lines.size() - 1;
    }

    int drop(int line) {
        if (noLine(line)) {
            return -1;
        }
        change(now.without(now.lines.get(line)));
        return now.fixes.size();
    }

    int lineOf(int number, int what) {
        if (noLine(number) || !in(what, 0, 9)) {
            return -1;
        }
        Line line = now.lines.get(number);
        Found found = found();
        switch (what) {
            case 0: return line.time;
            case 1: return line.person;
            case 2: return line.names;
            case 3: return line.words;
            case 4: return now.place(line);
            case 5: return found.of(line);
            case 6: return found.answers[number] == null ? -4 : now.indexOf(found.answers[number]);
            case 7: return (int) Arrays.stream(found.answers).filter(a -> a == line).count();
            case 8: return found.joins[number];
            default:
                int set = 0;
                for (int p = 0; p < 12; p++) {
                    set += now.speaks(line, p) ? 1 << p : 0;
                }
                return set;
        }
    }

    int inOrder(int index) {
        if (index < 0) {
            return -1;
        }
        return index < now.lines.size() ? now.indexOf(now.sorted().get(index)) : -4;
    }

    int score(int line, int earlier) {
        if (noLine(line) || noLine(earlier)) {
            return -1;
        }
        Line a = now.lines.get(line);
        Line b = now.lines.get(earlier);
        return now.place(b) < now.place(a) ? 100000 + now.score(a, b) : -2;
    }

    int reason(int number, int otherNumber) {
        if (noLine(number) || noLine(otherNumber)) {
            return -1;
        }
        Line line = now.lines.get(number);
        Line other = now.lines.get(otherNumber);
        if (now.place(other) >= now.place(line)) {
            return 1;
        }
        Fix fix = now.counting(line);
        if (fix != null && (fix.kind == 0 || fix.earlier != other)) {
            return 2;
        }
        if (now.hasFix(2, line, other) && fix == null) {
            return 3;
        }
        if (line.time - other.time > now.settings[0] && fix == null) {
            return 4;
        }
        if (now.score(line, other) < now.settings[1] && fix == null) {
            return 5;
        }
        return now.answer(line) == other ? 0 : 6;
    }

    int set(int what, int value) {
        if (badSetting(what, value)) {
            return -1;
        }
        int was = now.settings[what];
        change(now.with(what, value));
        return was;
    }

    int count(int what) {
        Found found = found();
        switch (what) {
            case 0: return now.lines.size();
            case 1: return now.fixes.size();
            case 2: return found.threads.size();
            case 3: return (int) Arrays.stream(found.answers).filter(a -> a == null).count();
            case 4: return Arrays.stream(found.joins).sum();
            case 5: return (int) now.lines.stream().filter(l -> now.counting(l) != null).count();
            case 6: return now.takes.size();
            case 7: return history.size();
            case 8: return text.length();
            default: return in(what, 10, 17) ? now.settings[what - 10] : -1;
        }
    }

    int undo() {
        if (history.isEmpty()) {
            return -2;
        }
        now = history.remove(history.size() - 1);
        return history.size();
    }

    int correct(int kind, int line, int earlier) {
        if (!in(kind, 0, 2) || noLine(line) || (kind != 0 && noLine(earlier))) {
            return -1;
        }
        Line a = now.lines.get(line);
        Line b = kind == 0 ? null : now.lines.get(earlier);
        if ((kind != 0 && now.place(b) >= now.place(a)) || now.hasFix(kind, a, b)) {
            return -2;
        }
        if (now.fixes.size() == 12) {
            return -3;
        }
        State next = now.copy();
        next.fixes.add(new Fix(kind, a, b));
        change(next);
        return now.fixes.size();
    }

    int withdraw(int index) {
        if (!in(index, 0, now.fixes.size() - 1)) {
            return -1;
        }
        State next = now.copy();
        next.fixes.remove(index);
        change(next);
        return now.fixes.size();
    }

    int correction(int index, int what) {
        if (!in(index, 0, now.fixes.size() - 1) || !in(what, 0, 3)) {
            return -1;
        }
        Fix fix = now.fixes.get(index);
        switch (what) {
            case 0: return fix.kind;
            case 1: return now.indexOf(fix.line);
            case 2: return fix.kind == 0 ? -4 : now.indexOf(fix.earlier);
            default:
                if (fix.kind < 2) {
                    return now.counting(fix.line) == fix ? 1 : 0;
                }
                if (now.answer(fix.line) != null && now.counting(fix.line) != null) {
                    return 0;
                }
                State without = now.copy();
                without.fixes.remove(index);
                return without.answer(fix.line) == fix.earlier ? 1 : 0;
        }
    }

    int threadOf(int number, int what) {
        Found found = found();
        if (!in(number, 0, found.threads.size() - 1) || !in(what, 0, 6)) {
            return -1;
        }
        List<Line> thread = found.threads.get(number);
        Line first = thread.get(0);
        Line last = thread.get(thread.size() - 1);
        switch (what) {
            case 0: return thread.size();
            case 1: return thread.stream().mapToInt(l -> 1 << l.person).reduce(0, (a, b) -> a | b);
            case 2: return now.indexOf(first);
            case 3: return now.indexOf(last);
            case 4: return last.time - first.time;
            case 5:
                int gap = 0;
                for (int i = 1; i < thread.size(); i++) {
                    gap = Math.max(gap, thread.get(i).time - thread.get(i - 1).time);
                }
                return gap;
            default: return thread.stream().mapToInt(found::row).max().getAsInt();
        }
    }

    int lineIn(int number, int index) {
        Found found = found();
        if (!in(number, 0, found.threads.size() - 1) || index < 0) {
            return -1;
        }
        List<Line> thread = found.threads.get(number);
        return index < thread.size() ? now.indexOf(thread.get(index)) : -4;
    }

    int busiest(int rank) {
        if (rank < 0) {
            return -1;
        }
        Found found = found();
        List<List<Line>> ranked = new ArrayList<>(found.threads);
        ranked.sort((a, b) -> a.size() != b.size() ? Integer.compare(b.size(), a.size())
            : Integer.compare(now.place(b.get(b.size() - 1)), now.place(a.get(a.size() - 1))));
        return rank < ranked.size() ? found.of(ranked.get(rank).get(0)) : -4;
    }

    int answers(int person, int other) {
        if (!in(person, 0, 11) || !in(other, 0, 11)) {
            return -1;
        }
        int sum = 0;
        for (Line line : now.lines) {
            Line answer = found().answers[now.indexOf(line)];
            sum += line.person == person && answer != null && answer.person == other ? 1 : 0;
        }
        return sum;
    }

    int partner(int person) {
        if (!in(person, 0, 11)) {
            return -1;
        }
        for (int most = 30; most > 0; most--) {
            for (int other = 0; other < 12; other++) {
                if (other != person && answers(person, other) == most) {
                    return other;
                }
            }
        }
        return -4;
    }

    int awake(int time) {
        if (!in(time, 0, 100000)) {
            return -1;
        }
        Found found = found();
        TreeSet<Integer> awake = new TreeSet<>();
        for (Line line : now.lines) {
            if (line.time <= time && line.time > time - now.settings[0]) {
                awake.add(found.of(line));
            }
        }
        return awake.size();
    }

    int threadsWith(int what, int value) {
        return badSetting(what, value) ? -1 : new Found(now.with(what, value)).threads.size();
    }

    int threadsWithout(int line) {
        return noLine(line) ? -1 : new Found(now.without(now.lines.get(line))).threads.size();
    }

    int parting(int line, int other) {
        if (noLine(line) || noLine(other) || line == other) {
            return -1;
        }
        for (int threshold = 0; threshold <= 200; threshold++) {
            Found found = new Found(now.with(1, threshold));
            if (found.of(now.lines.get(line)) != found.of(now.lines.get(other))) {
                return threshold;
            }
        }
        return -4;
    }

    int type(int character) {
        if (!in(character, 32, 126)) {
            return -1;
        }
        if (text.length() == 80) {
            return -3;
        }
        text += (char) character;
        return text.length();
    }

    int clearText() {
        int length = text.length();
        text = "";
        return length;
    }

    /** Position, reason and number of entries; the position is -1 if there is no fault. */
    private int[] tried(PlainChat copy) {
        int entries = 0;
        int at = 0;
        while (at < text.length()) {
            int end = text.indexOf(';', at);
            String entry = end < 0 ? "?" : text.substring(at, end);
            int reason = copy.doEntry(entry);
            if (reason != 0) {
                return new int[] {at, reason, 0};
            }
            entries++;
            at = end + 1;
        }
        return new int[] {-1, 0, entries};
    }

    private int doEntry(String entry) {
        String number = "[0-9]{1,6}";
        if (!entry.matches("l" + number + "," + number + "," + number + "," + number)
            && !entry.matches("b" + number) && !entry.matches("[an]" + number + "," + number)) {
            return 1;
        }
        int[] n = Arrays.stream(entry.substring(1).split(",")).mapToInt(Integer::parseInt).toArray();
        int answer;
        switch (entry.charAt(0)) {
            case 'l': answer = line(n[0], n[1], n[2], n[3]); break;
            case 'b': answer = correct(0, n[0], 0); break;
            case 'a': answer = correct(1, n[0], n[1]); break;
            default: answer = correct(2, n[0], n[1]); break;
        }
        return answer >= 0 ? 0 : 1 - answer;
    }

    private PlainChat trial() {
        PlainChat copy = new PlainChat();
        copy.now = now;
        return copy;
    }

    int fault(int what) {
        if (!in(what, 0, 1)) {
            return -1;
        }
        int[] result = tried(trial());
        return result[0] < 0 ? -4 : result[what];
    }

    int load() {
        PlainChat copy = trial();
        int[] result = tried(copy);
        if (result[0] >= 0) {
            return -2;
        }
        change(copy.now);
        return result[2];
    }
}

import java.util.ArrayDeque;
import java.util.ArrayList;
import java.util.Comparator;
import java.util.Deque;
import java.util.HashMap;
import java.util.LinkedHashSet;
import java.util.List;
import java.util.Map;
import java.util.Set;
import java.util.regex.Matcher;
import java.util.regex.Pattern;

/**
 * Long runs of calls, the same ones each time, on the class and on a model beside it that was
 * written from the document alone, in its own way and without thrift; all answers must be alike.
 */
public final class ModelTest {
    private static final int RUNS = 240;
    private static final int MOST_FAULTS = 20;

    private static long seed;
    private static long checks = 0;
    private static int wrong = 0;

    public static void main(String[] args) {
        for (int run = 0; run < RUNS && wrong < MOST_FAULTS; run++) {
            seed = 7919L * run + 1;
            oneRun(run);
        }
        System.out.println("ModelTest: " + checks + " checks, " + wrong + " wrong");
        System.out.println("ModelTest reached: " + reached);
        for (String mark : LANDMARKS) {
            if (!reached.containsKey(mark)) {
                System.out.println("ModelTest never reached: " + mark);
                wrong++;
            }
        }
        if (wrong != 0) {
            System.exit(1);
        }
    }

    /** What the runs must have come by, lest they test less than they seem to. */
    private static final String[] LANDMARKS = {"word 200 refused", "beat 400", "beat above refused",
        "talk stopped", "talk whole", "talk refused", "undo", "restore", "seven saved", "gap",
        "message 0", "message 1", "message 2", "message 3", "why 1", "why 2", "why 3", "full buffer",
        "all heard whole", "heardIn above 10"};
    private static final Map<String, Integer> reached = new HashMap<>();

    private static void reach(String mark) {
        reached.merge(mark, 1, Integer::sum);
    }

    /** A number from low to high, the same one each time. */
    private static int pick(int low, int high) {
        seed = seed * 6364136223846793005L + 1442695040888963407L;
        return low + (int) ((seed >>> 33) % (high - low + 1));
    }

    private static boolean chance(int percent) {
        return pick(1, 100) <= percent;
    }

    private static int maybeOutside(int low, int high) {
        if (chance(4)) {
            int[] outside = {low - 1, high + 1, Integer.MIN_VALUE, Integer.MAX_VALUE};
            return outside[pick(0, 3)];
        }
        return pick(low, high);
    }

    /** Of a hundred dialogue parts those that are pauses. */
    private static int pauses;
    /** Of a hundred calls those that go back, and those that change a setting. */
    private static int goingBack;
    private static int settling;
    /** Of a hundred calls those that say a word, beside the usual ones. */
    private static int talking;
    /** The last kind of call; from 71 on they are texts, each of which takes many calls. */
    private static int lastKind;

    private static void oneRun(int run) {
        Line x = new Line();
        Model m = new Model();
        boolean wordy = run % 6 == 0;
        boolean slow = run % 6 == 3;
        pauses = wordy ? 1 : slow ? 50 : 25;
        goingBack = wordy || slow ? 1 : 20;
        settling = run % 6 == 1 ? 40 : 2;
        talking = wordy ? 70 : 0;
        lastKind = run % 3 == 2 ? 83 : 74;
        int longestPass = wordy ? 1 : slow ? 50 : run % 3 == 1 ? 6 : 1;
        int seats = run % 5 == 0 ? 0 : 5;
        int marks = run % 4 == 0 ? 1 : 9;
        while (!x.isFull() && wrong < MOST_FAULTS) {
            String made = oneCall(x, m, longestPass, seats, marks);
            looked(run + " digest behind " + made, x, EchoLine::digest, m::digest);
            if (chance(1)) {
                someLooks(run, x, m);
            }
        }
        someLooks(run, x, m);
    }

    private static String oneCall(Line x, Model m, int longestPass, int seats, int marks) {
        int kind = chance(goingBack) ? pick(84, 99) : chance(settling) ? pick(63, 70)
                : chance(talking) ? 0 : pick(0, lastKind);
        if (kind < 45) {
            int seat = maybeOutside(0, seats);
            int word = maybeOutside(1, 99);
            int mark = chance(25) ? -1 : maybeOutside(0, marks);
            return changed("say", x, line -> line.say(seat, word, mark), () -> m.say(seat, word, mark));
        } else if (kind < 50 + pauses / 4) {
            int beats = chance(5) ? pick(-1, 52) : pick(1, longestPass);
            return changed("pass", x, line -> line.pass(beats), () -> m.pass(beats));
        } else if (kind < 63) {
            int seat = maybeOutside(0, 5);
            int value = maybeOutside(0, 3);
            return changed("wall", x, line -> line.wall(seat, value), () -> m.wall(seat, value));
        } else if (kind < 71) {
            int setting = maybeOutside(0, 2);
            int value = chance(10) ? pick(-1, 52) : pick(0, setting == 2 ? 50 : setting == 1 ? 4 : 5);
            return changed("set", x, line -> line.set(setting, value), () -> m.set(setting, value));
        } else if (kind < 84) {
            return oneText(x, m);
        } else if (kind < 92) {
            return changed("undo", x, EchoLine::undo, m::undo);
        } else if (kind < 96) {
            return changed("keep", x, EchoLine::keep, m::keep);
        }
        return changed("restore", x, EchoLine::restore, m::restore);
    }

    private static String oneText(Line x, Model m) {
        if (chance(80)) {
            changed("clearBuffer", x, EchoLine::clearBuffer, m::clearBuffer);
        }
        String text = chance(95) ? dialogue() : "0:" + "1,".repeat(40);
        if (chance(25)) {
            int place = pick(0, text.length() - 1);
            char sign = "0123456789:;,#.~".charAt(pick(0, 15));
            text = text.substring(0, place) + sign + text.substring(place + (chance(50) ? 1 : 0));
        }
        for (int place = 0; place < text.length(); place++) {
            int code = chance(1) ? pick(30, 130) : text.charAt(place);
            changed("append", x, line -> line.append(code), () -> m.append(code));
            if (chance(20)) {
                looked("firstError", x, EchoLine::firstError, m::firstError);
            }
        }
        looked("firstError", x, EchoLine::firstError, m::firstError);
        return changed("talk of " + m.buffer, x, EchoLine::talk, m::talk);
    }

    private static String dialogue() {
        StringBuilder text = new StringBuilder();
        int parts = pick(1, 6);
        for (int part = 0; part < parts; part++) {
            text.append(part > 0 ? ";" : "");
            if (chance(pauses)) {
                text.append('.').append(pick(1, 50));
                continue;
            }
            text.append(pick(0, 5)).append(':').append(pick(1, 99));
            while (chance(60)) {
                text.append(',').append(pick(1, 99));
            }
            if (chance(60)) {
                text.append('#').append(pick(0, 9));
            }
        }
        return text.toString();
    }

    /** Of all looks that there are, in range and a little outside, one in ten. */
    private static void someLooks(int run, Line x, Model m) {
        for (int number = -1; number <= m.now.words.size(); number++) {
            int n = number;
            for (int what = -1; what <= 6; what++) {
                int w = what;
                maybeLooked(run + " said " + n + " " + w, x, line -> line.said(n, w), () -> m.said(n, w));
            }
            for (int seat = -1; seat <= 6; seat++) {
                int s = seat;
                String which = " " + n + " " + s;
                maybeLooked(run + " comes" + which, x, line -> line.comes(n, s), () -> m.comes(n, s));
                maybeLooked(run + " whyNot" + which, x, line -> line.whyNot(n, s), () -> m.whyNot(n, s));
                maybeLooked(run + " heardIn" + which, x, line -> line.heardIn(n, s), () -> m.heardIn(n, s));
            }
        }
        for (int seat = -1; seat <= 6; seat++) {
            looksAtSpeaker(run, seat, x, m);
        }
        for (int what = -1; what <= 10; what++) {
            int w = what;
            looked(run + " count " + w, x, line -> line.count(w), () -> m.count(w));
        }
        looked(run + " bestSeat", x, EchoLine::bestSeat, m::bestSeat);
        looked(run + " heardShare", x, EchoLine::heardShare, m::heardShare);
    }

    private static void looksAtSpeaker(int run, int s, Line x, Model m) {
        looked(run + " ifSilent " + s, x, line -> line.ifSilent(s), () -> m.ifSilent(s));
        for (int beat = -1; beat <= m.now.heard.size(); beat++) {
            int b = beat;
            for (int what = -1; what <= 3; what++) {
                int w = what;
                String which = s + " " + b + " " + w;
                maybeLooked(run + " heard " + which, x, line -> line.heard(s, b, w), () -> m.heard(s, b, w));
            }
        }
        for (int what = -1; what <= 8; what++) {
            int w = what;
            looked(run + " speaker " + s + " " + w, x, line -> line.speaker(s, w), () -> m.speaker(s, w));
        }
        for (int from = -1; from <= 6; from++) {
            int f = from;
            for (int mark = -1; mark <= 10; mark++) {
                int k = mark;
                String which = f + " " + k + " " + s;
                maybeLooked(run + " message " + which, x, line -> line.message(f, k, s), () -> m.message(f, k, s));
            }
        }
    }

    private interface Asked {
        Object of(EchoLine x);
    }

    private interface Call {
        Object answer();
    }

    /**
     * The object under test. It gets at most 512 calls, since what later ones answer is free: then
     * the changes are made once more, on a new one.
     */
    private static final class Line {
        private static final int MOST_CALLS = 512;
        private static final int MANY_CHANGES = 380;

        private final List<Asked> changes = new ArrayList<>();
        private EchoLine x = new EchoLine();
        private int calls = 0;

        boolean isFull() {
            return changes.size() >= MANY_CHANGES;
        }

        String change(Asked call) {
            String answer = look(call);
            changes.add(call);
            return answer;
        }

        String look(Asked call) {
            if (calls >= MOST_CALLS) {
                x = new EchoLine();
                changes.forEach(change -> answerOf(() -> change.of(x)));
                calls = changes.size();
            }
            calls++;
            return answerOf(() -> call.of(x));
        }
    }

    private static String changed(String name, Line x, Asked ours, Call due) {
        String want = answerOf(due);
        String made = name + " that answers " + want;
        same(name, x.change(ours), want);
        return made;
    }

    private static void looked(String name, Line x, Asked ours, Call due) {
        same(name, x.look(ours), answerOf(due));
    }

    private static void maybeLooked(String name, Line x, Asked ours, Call due) {
        if (chance(10)) {
            looked(name, x, ours, due);
        }
    }

    private static String answerOf(Call call) {
        try {
            return "" + call.answer();
        } catch (RuntimeException e) {
            return e.getClass().getName();
        }
    }

    private static void same(String what, String got, String want) {
        checks++;
        if (!got.equals(want)) {
            wrong++;
            System.out.println("run " + what + ": answered " + got + ", due is " + want);
        }
    }

    /** A word: who said it, what, with which mark, when, and when it comes to each seat. */
    private record Word(int number, int seat, int word, int mark, int beat, List<Integer> comes) {
    }

    /** A state; its lists are never changed, but replaced by longer ones. */
    private record State(List<Integer> walls, List<Integer> settings, List<Word> words, List<List<Integer>> heard) {
    }

    private static final class Model {
        private static final String WORD = "[1-9][0-9]?";
        private static final String PART = "(?:[0-5]:" + WORD + "(?:," + WORD + ")*(?:#[0-9])?"
                + "|\\.(?:50|[1-4][0-9]|[1-9]))";
        private static final Pattern DIALOGUE = Pattern.compile(PART + "(?:;" + PART + ")*");

        State now = new State(List.of(0, 0, 0, 0, 0, 0), List.of(1, 1, 8), List.of(), List.of());
        State snapshot = null;
        final Deque<State> saved = new ArrayDeque<>();
        String buffer = "";

        private static void seatIs(boolean right) {
            if (!right) {
                throw new IndexOutOfBoundsException();
            }
        }

        private static void argumentIs(boolean right) {
            if (!right) {
                throw new IllegalArgumentException();
            }
        }

        private static void stateIs(boolean right) {
            if (!right) {
                throw new IllegalStateException();
            }
        }

        private static boolean in(int value, int low, int high) {
            return low <= value && value <= high;
        }

        private void save() {
            saved.addLast(now);
            if (saved.size() > 6) {
                saved.removeFirst();
                reach("seven saved");
            }
        }

        private static <T> List<T> with(List<T> list, T more) {
            List<T> longer = new ArrayList<>(list);
            longer.add(more);
            return longer;
        }

        private static List<Integer> changed(List<Integer> list, int place, int value) {
            List<Integer> other = new ArrayList<>(list);
            other.set(place, value);
            return other;
        }

        private static int beat(State s) {
            return s.heard.size();
        }

        private static int delay(State s, int from, int to) {
            int up = Math.floorMod(to - from, 6);
            int distance = up <= 3 ? up : 6 - up;
            int wall = s.walls.get(to);
            if (wall == 1 && distance == 3 || wall == 3 && distance == 1) {
                return -1;
            }
            return s.settings.get(0) + s.settings.get(1) * distance + (wall == 2 ? 2 : 0);
        }

        private static int hears(State s, int seat, int beat) {
            List<Word> voices = new ArrayList<>();
            for (Word w : s.words) {
                int came = w.comes.get(seat);
                if (came >= 0 && came <= beat && beat - came <= s.settings.get(2)) {
                    voices.add(w);
                }
            }
            voices.sort(Comparator.comparingInt((Word w) -> w.comes.get(seat)).thenComparingInt(Word::number));
            return voices.size() < 2 ? -1 : voices.get(voices.size() - 2).number;
        }

        private static State silentBeat(State s) {
            List<Integer> row = new ArrayList<>();
            for (int seat = 0; seat < 6; seat++) {
                row.add(hears(s, seat, beat(s)));
            }
            return new State(s.walls, s.settings, s.words, with(s.heard, row));
        }

        private static State silentBeats(State s, int beats) {
            State then = s;
            for (int passed = 0; passed < beats; passed++) {
                then = silentBeat(then);
            }
            return then;
        }

        private static State spoken(State s, int seat, int word, int mark) {
            List<Integer> comes = new ArrayList<>();
            for (int to = 0; to < 6; to++) {
                int delay = delay(s, seat, to);
                comes.add(delay < 0 ? -1 : beat(s) + delay);
            }
            Word said = new Word(s.words.size(), seat, word, mark, beat(s), comes);
            return silentBeat(new State(s.walls, s.settings, with(s.words, said), s.heard));
        }

        private static boolean maySpeak(State s) {
            if (s.words.size() >= 200) {
                reach("word 200 refused");
            }
            if (beat(s) >= 400) {
                reach("beat 400");
            }
            return s.words.size() < 200 && beat(s) < 400;
        }

        int say(int seat, int word, int mark) {
            seatIs(in(seat, 0, 5));
            argumentIs(in(word, 1, 99) && in(mark, -1, 9));
            stateIs(maySpeak(now));
            save();
            now = spoken(now, seat, word, mark);
            return now.words.size() - 1;
        }

        int pass(int beats) {
            argumentIs(in(beats, 1, 50));
            if (beat(now) + beats > 400) {
                reach("beat above refused");
            }
            stateIs(beat(now) + beats <= 400);
            save();
            now = silentBeats(now, beats);
            return beat(now);
        }

        int wall(int seat, int kind) {
            seatIs(in(seat, 0, 5));
            argumentIs(in(kind, 0, 3));
            save();
            int before = now.walls.get(seat);
            now = new State(changed(now.walls, seat, kind), now.settings, now.words, now.heard);
            return before;
        }

        int set(int setting, int value) {
            seatIs(in(setting, 0, 2));
            argumentIs(setting == 0 ? in(value, 0, 5) : setting == 1 ? in(value, 0, 4) : in(value, 1, 50));
            save();
            int before = now.settings.get(setting);
            now = new State(now.walls, changed(now.settings, setting, value), now.words, now.heard);
            return before;
        }

        int append(int code) {
            argumentIs(in(code, 33, 126));
            if (buffer.length() == 60) {
                reach("full buffer");
            }
            stateIs(buffer.length() < 60);
            buffer += (char) code;
            return buffer.length();
        }

        int clearBuffer() {
            int length = buffer.length();
            buffer = "";
            return length;
        }

        int firstError() {
            for (int length = 1; length <= buffer.length(); length++) {
                Matcher matcher = DIALOGUE.matcher(buffer.substring(0, length));
                if (!matcher.matches() && !matcher.hitEnd()) {
                    return length - 1;
                }
            }
            return buffer.length();
        }

        int talk() {
            boolean whole = DIALOGUE.matcher(buffer).matches();
            reach(whole ? "talk" : "talk refused");
            argumentIs(whole);
            save();
            int before = now.words.size();
            reach(happens(buffer) ? "talk whole" : "talk stopped");
            buffer = "";
            return now.words.size() - before;
        }

        private boolean happens(String text) {
            for (String part : text.split(";")) {
                if (part.startsWith(".")) {
                    int beats = Integer.parseInt(part.substring(1));
                    if (beat(now) + beats > 400) {
                        return false;
                    }
                    now = silentBeats(now, beats);
                    continue;
                }
                String[] halves = part.substring(2).split("#");
                int mark = halves.length > 1 ? Integer.parseInt(halves[1]) : -1;
                for (String word : halves[0].split(",")) {
                    if (!maySpeak(now)) {
                        return false;
                    }
                    now = spoken(now, part.charAt(0) - '0', Integer.parseInt(word), mark);
                }
            }
            return true;
        }

        int undo() {
            stateIs(!saved.isEmpty());
            reach("undo");
            now = saved.removeLast();
            return saved.size();
        }

        int keep() {
            snapshot = now;
            return beat(now);
        }

        int restore() {
            stateIs(snapshot != null);
            reach("restore");
            save();
            now = snapshot;
            return beat(now);
        }

        private List<Integer> row(int seat) {
            return rows().get(seat);
        }

        int said(int number, int what) {
            argumentIs(number >= 0 && in(what, 0, 5));
            if (number >= now.words.size()) {
                return -1;
            }
            Word w = now.words.get(number);
            if (what < 4) {
                return what == 0 ? w.seat : what == 1 ? w.word : what == 2 ? w.mark : w.beat;
            }
            int mask = 0;
            for (int seat = 0; seat < 6; seat++) {
                if (what == 4 ? w.comes.get(seat) >= 0 : row(seat).contains(number)) {
                    mask += 1 << seat;
                }
            }
            return mask;
        }

        int comes(int number, int seat) {
            seatIs(in(seat, 0, 5));
            argumentIs(number >= 0);
            return number < now.words.size() ? now.words.get(number).comes.get(seat) : -1;
        }

        int heard(int seat, int beat, int what) {
            seatIs(in(seat, 0, 5));
            argumentIs(beat >= 0 && in(what, 0, 2));
            if (beat >= beat(now) || now.heard.get(beat).get(seat) < 0) {
                return -1;
            }
            int number = now.heard.get(beat).get(seat);
            if (what == 2) {
                return beat > 0 && now.heard.get(beat - 1).get(seat) == number ? 1 : 0;
            }
            return what == 0 ? number : now.words.get(number).word;
        }

        int speaker(int seat, int what) {
            seatIs(in(seat, 0, 5));
            argumentIs(in(what, 0, 7));
            List<Integer> row = row(seat);
            int heardBeats = 0;
            int repeated = 0;
            for (int beat = 0; beat < row.size(); beat++) {
                heardBeats += row.get(beat) >= 0 ? 1 : 0;
                repeated += heard(seat, beat, 2) == 1 ? 1 : 0;
            }
            Set<Integer> once = new LinkedHashSet<>(row);
            once.remove(-1);
            switch (what) {
                case 0:
                    return now.walls.get(seat);
                case 1:
                    return heardBeats;
                case 3:
                    return repeated;
                case 4:
                    return row.size() - heardBeats;
                case 5:
                    return gaps(row);
                case 6:
                    return (int) now.words.stream().filter(w -> w.seat == seat).count();
                default:
                    return once.size();
            }
        }

        private static int gaps(List<Integer> row) {
            StringBuilder signs = new StringBuilder();
            for (int number : row) {
                signs.append(number < 0 ? '.' : 'w');
            }
            Matcher gap = Pattern.compile("(?<=w)\\.+(?=w)").matcher(signs);
            int gaps = 0;
            while (gap.find()) {
                gaps++;
                reach("gap");
            }
            return gaps;
        }

        private static int hearing(State s, List<List<Integer>> rows, int from, int mark, int seat) {
            List<Integer> first = new ArrayList<>();
            for (Word w : s.words) {
                if (w.seat == from && w.mark == mark) {
                    first.add(rows.get(seat).indexOf(w.number));
                }
            }
            if (first.isEmpty()) {
                return -1;
            }
            List<Integer> some = new ArrayList<>(first);
            some.removeIf(beat -> beat < 0);
            if (some.size() < first.size()) {
                reach(some.isEmpty() ? "message 0" : "message 1");
                return some.isEmpty() ? 0 : 1;
            }
            List<Integer> ordered = new ArrayList<>(first);
            ordered.sort(Comparator.naturalOrder());
            reach(ordered.equals(first) ? "message 3" : "message 2");
            return ordered.equals(first) ? 3 : 2;
        }

        private State rowsOf = null;
        private List<List<Integer>> rows = null;

        /** What each speaker heard, beat by beat; kept until the state is another one. */
        private List<List<Integer>> rows() {
            if (rowsOf != now) {
                rowsOf = now;
                rows = new ArrayList<>();
                for (int seat = 0; seat < 6; seat++) {
                    List<Integer> row = new ArrayList<>();
                    for (List<Integer> beat : now.heard) {
                        row.add(beat.get(seat));
                    }
                    rows.add(row);
                }
            }
            return rows;
        }

        int message(int from, int mark, int seat) {
            seatIs(in(from, 0, 5) && in(seat, 0, 5));
            argumentIs(in(mark, 0, 9));
            return hearing(now, rows(), from, mark, seat);
        }

        int count(int what) {
            argumentIs(in(what, 0, 9));
            if (what <= 1) {
                return what == 0 ? beat(now) : now.words.size();
            }
            if (what >= 6) {
                return what == 9 ? saved.size() : now.settings.get(what - 6);
            }
            int number = 0;
            if (what <= 3) {
                for (Word w : now.words) {
                    number += said(w.number, 5) == (what == 2 ? 63 : 0) ? 1 : 0;
                }
                return number;
            }
            List<List<Integer>> rows = rows();
            for (int from = 0; from < 6; from++) {
                for (int mark = 0; mark <= 9; mark++) {
                    int whole = 0;
                    for (int seat = 0; seat < 6; seat++) {
                        whole += hearing(now, rows, from, mark, seat) == 3 ? 1 : 0;
                    }
                    boolean counts = what == 4 ? hearing(now, rows, from, mark, 0) != -1 : whole == 6;
                    number += counts ? 1 : 0;
                }
            }
            if (what == 5 && number > 0) {
                reach("all heard whole");
            }
            return number;
        }

        int whyNot(int number, int seat) {
            seatIs(in(seat, 0, 5));
            argumentIs(number >= 0);
            if (number >= now.words.size()) {
                return -1;
            }
            if (row(seat).contains(number)) {
                return 0;
            }
            int came = now.words.get(number).comes.get(seat);
            int why = came < 0 ? 1 : came >= beat(now) ? 2 : 3;
            reach("why " + why);
            return why;
        }

        int ifSilent(int seat) {
            seatIs(in(seat, 0, 5));
            return silentBeat(now).heard.get(beat(now)).get(seat);
        }

        int heardIn(int number, int seat) {
            seatIs(in(seat, 0, 5));
            argumentIs(number >= 0);
            if (number >= now.words.size()) {
                return -1;
            }
            if (row(seat).contains(number)) {
                return 0;
            }
            for (int beats = 1; beats <= 60; beats++) {
                if (hears(now, seat, beat(now) + beats - 1) == number) {
                    if (beats > 10) {
                        reach("heardIn above 10");
                    }
                    return beats;
                }
            }
            return -1;
        }

        int bestSeat() {
            List<int[]> seats = new ArrayList<>();
            for (int from = 0; from < 6; from++) {
                List<Integer> comes = spoken(now, from, 1, -1).words.get(now.words.size()).comes;
                int never = 0;
                int latest = 0;
                for (int beat : comes) {
                    never += beat < 0 ? 1 : 0;
                    latest = Math.max(latest, beat);
                }
                seats.add(new int[] {never, latest, from});
            }
            seats.sort(Comparator.comparingInt((int[] s) -> s[0]).thenComparingInt(s -> s[1]).thenComparingInt(s -> s[2]));
            return seats.get(0)[2];
        }

        double heardShare() {
            long all = 0;
            for (List<Integer> row : now.heard) {
                all += row.stream().filter(number -> number >= 0).count();
            }
            return beat(now) == 0 ? 0.0 : (double) all / (6L * beat(now));
        }

        private long hash;

        private void take(long value) {
            hash = 31 * hash + value;
        }

        long digest() {
            hash = 3853;
            for (int what = 0; what <= 9; what++) {
                take(count(what));
            }
            for (int seat = 0; seat < 6; seat++) {
                for (int what = 0; what <= 7; what++) {
                    take(speaker(seat, what));
                }
                take(ifSilent(seat));
            }
            int words = now.words.size();
            for (int behind = 1; behind <= 12 && behind <= words; behind++) {
                for (int what = 0; what <= 5; what++) {
                    take(said(words - behind, what));
                }
                for (int seat = 0; seat < 6; seat++) {
                    take(comes(words - behind, seat));
                    take(whyNot(words - behind, seat));
                }
            }
            for (int behind = 1; behind <= 8 && behind <= beat(now); behind++) {
                for (int seat = 0; seat < 6; seat++) {
                    for (int what = 0; what <= 2; what++) {
                        take(heard(seat, beat(now) - behind, what));
                    }
                }
            }
            takeMessages();
            for (int seat = 0; seat < 6; seat++) {
                take(words == 0 ? -1 : heardIn(words - 1, seat));
            }
            take(bestSeat());
            take(Double.doubleToLongBits(heardShare()));
            take(buffer.length());
            buffer.chars().forEach(this::take);
            return hash;
        }

        private void takeMessages() {
            List<List<Integer>> rows = rows();
            for (int from = 0; from < 6; from++) {
                for (int mark = 0; mark <= 9; mark++) {
                    int sum = 0;
                    for (int seat = 0; seat < 6; seat++) {
                        sum += hearing(now, rows, from, mark, seat);
                    }
                    take(sum);
                }
            }
        }
    }
}

/**
 * An echo chamber telephone: six speakers around a chamber, each of whom hears the second-last
 * voice that has come. This class checks what it is called with and hands the work to the classes
 * inside it; what each method promises stands in the project's document.
 */
public final class EchoLine {
    public static final int NONE = -1;

    private static final int SEATS = 6;
    private static final int FARTHEST = 3;
    private static final int MARKS = 10;
    private static final int HIGHEST_WORD = 99;
    private static final int MOST_WORDS = 200;
    private static final int LAST_BEAT = 400;
    private static final int LONGEST_PASS = 50;
    private static final int MOST_SAVED = 6;
    private static final int MOST_SIGNS = 60;
    private static final int FIRST_SIGN = 33;
    private static final int LAST_SIGN = 126;
    private static final int LOOK_AHEAD = 60;

    private static final int BARE = 0;
    private static final int HUNG = 1;
    private static final int HOLLOW = 2;
    private static final int OPEN = 3;
    private static final int HOLLOW_ECHO = 2;

    private static final int BASE_DELAY = 0;
    private static final int STEP_DELAY = 1;
    private static final int MEMORY = 2;
    private static final int[] LOWEST_VALUE = {0, 0, 1};
    private static final int[] HIGHEST_VALUE = {5, 4, 50};
    /** No word comes later behind the beat in which it was said: 5 + 4 * 3 + 2. */
    private static final int LONGEST_DELAY = 19;

    private static final int NOT_AT_ALL = 0;
    private static final int BROKEN = 1;
    private static final int OUT_OF_ORDER = 2;
    private static final int WHOLE = 3;

    private static final int DIGEST_WORDS = 12;
    private static final int DIGEST_BEATS = 8;

    private final Chamber now;
    private final Report report;
    private final History history;
    private final Text text;
    private Chamber snapshot;

    public EchoLine() {
        Chamber chamber = new Chamber();
        now = chamber;
        report = new Report(chamber);
        history = new History();
        text = new Text();
    }

    // ---- speaking

    public int say(int seat, int word, int mark)
            throws IndexOutOfBoundsException, IllegalArgumentException, IllegalStateException {
        requireSeat(seat);
        require(isWithin(word, 1, HIGHEST_WORD) && isWithin(mark, NONE, MARKS - 1));
        if (!now.canSpeak()) {
            throw new IllegalStateException("no more words, or no more beats");
        }
        history.save(now);
        return now.speak(seat, word, mark);
    }

    public int pass(int beats) throws IllegalArgumentException, IllegalStateException {
        require(isWithin(beats, 1, LONGEST_PASS));
        if (!now.canRest(beats)) {
            throw new IllegalStateException("the beat would be above the last one");
        }
        history.save(now);
        now.rest(beats);
        return now.beat;
    }

    public int wall(int seat, int kind) throws IndexOutOfBoundsException, IllegalArgumentException {
        requireSeat(seat);
        require(isWithin(kind, BARE, OPEN));
        history.save(now);
        int previous = now.walls[seat];
        now.walls[seat] = kind;
        return previous;
    }

    public int set(int setting, int value)
            throws IndexOutOfBoundsException, IllegalArgumentException {
        if (!isWithin(setting, BASE_DELAY, MEMORY)) {
            throw new IndexOutOfBoundsException("no such setting");
        }
        require(isWithin(value, LOWEST_VALUE[setting], HIGHEST_VALUE[setting]));
        history.save(now);
        int previous = now.settings[setting];
        now.settings[setting] = value;
        return previous;
    }

    // ---- texts

    public int append(int code) throws IllegalArgumentException, IllegalStateException {
        require(isWithin(code, FIRST_SIGN, LAST_SIGN));
        if (text.length >= MOST_SIGNS) {
            throw new IllegalStateException("the buffer is full");
        }
        text.add((char) code);
        return text.length;
    }

    public int clearBuffer() {
        int previous = text.length;
        text.length = 0;
        return previous;
    }

    public int firstError() {
        return text.errorPlace();
    }

    public int talk() throws IllegalArgumentException {
        require(text.isComplete());
        history.save(now);
        int wordsBefore = now.words;
        text.happenIn(now);
        text.length = 0;
        return now.words - wordsBefore;
    }

    // ---- undo, the snapshot

    public int undo() throws IllegalStateException {
        Chamber latest = history.latest();
        if (latest == null) {
            throw new IllegalStateException("no saved state");
        }
        now.become(latest);
        history.dropLatest();
        return history.size;
    }

    public int keep() {
        if (snapshot == null) {
            snapshot = new Chamber();
        }
        snapshot.become(now);
        return now.beat;
    }

    public int restore() throws IllegalStateException {
        if (snapshot == null) {
            throw new IllegalStateException("no snapshot");
        }
        history.save(now);
        now.become(snapshot);
        return now.beat;
    }

    // ---- looks; nothing is changed

    public int said(int number, int what) throws IllegalArgumentException {
        require(number >= 0 && isWithin(what, 0, 5));
        return number < now.words ? report.ofWord(number, what) : NONE;
    }

    public int comes(int number, int seat)
            throws IndexOutOfBoundsException, IllegalArgumentException {
        requireSeat(seat);
        require(number >= 0);
        return number < now.words ? now.comesAt[seat][number] : NONE;
    }

    public int heard(int seat, int beat, int what)
            throws IndexOutOfBoundsException, IllegalArgumentException {
        requireSeat(seat);
        require(beat >= 0 && isWithin(what, 0, 2));
        return beat < now.beat ? report.ofBeat(seat, beat, what) : NONE;
    }

    public int speaker(int seat, int what)
            throws IndexOutOfBoundsException, IllegalArgumentException {
        requireSeat(seat);
        require(isWithin(what, 0, 7));
        return report.ofSpeaker(seat, what);
    }

    public int message(int from, int mark, int seat)
            throws IndexOutOfBoundsException, IllegalArgumentException {
        requireSeat(from);
        requireSeat(seat);
        require(isWithin(mark, 0, MARKS - 1));
        return report.hearingOf(from, mark, seat);
    }

    public int count(int what) throws IllegalArgumentException {
        require(isWithin(what, 0, 9));
        return total(what);
    }

    public int whyNot(int number, int seat)
            throws IndexOutOfBoundsException, IllegalArgumentException {
        requireSeat(seat);
        require(number >= 0);
        return number < now.words ? report.whyUnheard(number, seat) : NONE;
    }

    // ---- what would be; nothing is changed

    public int ifSilent(int seat) throws IndexOutOfBoundsException {
        requireSeat(seat);
        return now.secondLast(seat, now.beat);
    }

    public int heardIn(int number, int seat)
            throws IndexOutOfBoundsException, IllegalArgumentException {
        requireSeat(seat);
        require(number >= 0);
        return number < now.words ? report.silentBeatsUntilHeard(number, seat) : NONE;
    }

    public int bestSeat() {
        return report.bestPlace();
    }

    public double heardShare() {
        return report.share();
    }

    public long digest() {
        Hash hash = new Hash();
        for (int what = 0; what <= 9; what++) {
            hash.take(total(what));
        }
        takeSpeakers(hash);
        takeLatestWords(hash);
        takeLatestBeats(hash);
        takeMessages(hash);
        for (int seat = 0; seat < SEATS; seat++) {
            hash.take(now.words > 0 ? report.silentBeatsUntilHeard(now.words - 1, seat) : NONE);
        }
        hash.take(report.bestPlace());
        hash.take(Hash.bitsOf(report.share()));
        hash.take(text.length);
        for (int place = 0; place < text.length; place++) {
            hash.take(text.signs[place]);
        }
        return hash.value;
    }

    private void takeSpeakers(Hash hash) {
        for (int seat = 0; seat < SEATS; seat++) {
            for (int what = 0; what <= 7; what++) {
                hash.take(report.ofSpeaker(seat, what));
            }
            hash.take(now.secondLast(seat, now.beat));
        }
    }

    private void takeLatestWords(Hash hash) {
        int oldest = Math.max(0, now.words - DIGEST_WORDS);
        for (int number = now.words - 1; number >= oldest; number--) {
            for (int what = 0; what <= 5; what++) {
                hash.take(report.ofWord(number, what));
            }
            for (int seat = 0; seat < SEATS; seat++) {
                hash.take(now.comesAt[seat][number]);
                hash.take(report.whyUnheard(number, seat));
            }
        }
    }

    private void takeLatestBeats(Hash hash) {
        int oldest = Math.max(0, now.beat - DIGEST_BEATS);
        for (int beat = now.beat - 1; beat >= oldest; beat--) {
            for (int seat = 0; seat < SEATS; seat++) {
                for (int what = 0; what <= 2; what++) {
                    hash.take(report.ofBeat(seat, beat, what));
                }
            }
        }
    }

    private void takeMessages(Hash hash) {
        for (int from = 0; from < SEATS; from++) {
            for (int mark = 0; mark < MARKS; mark++) {
                int sum = 0;
                for (int seat = 0; seat < SEATS; seat++) {
                    sum += report.hearingOf(from, mark, seat);
                }
                hash.take(sum);
            }
        }
    }

    private int total(int what) {
        return what == 9 ? history.size : report.ofAll(what);
    }

    private static boolean isWithin(int value, int lowest, int highest) {
        return value >= lowest && value <= highest;
    }

    private static void requireSeat(int seat) {
        if (!isWithin(seat, 0, SEATS - 1)) {
            throw new IndexOutOfBoundsException("no such seat");
        }
    }

    private static void require(boolean holds) {
        if (!holds) {
            throw new IllegalArgumentException("out of range, or not a complete dialogue");
        }
    }

    /** All that undo and the snapshot bring back, and how it goes on. */
    private static final class Chamber {
        int beat;
        int words;
        final int[] walls = new int[SEATS];
        final int[] settings = {1, 1, 8};
        final int[] seatOf = new int[MOST_WORDS];
        final int[] wordOf = new int[MOST_WORDS];
        final int[] markOf = new int[MOST_WORDS];
        final int[] saidAt = new int[MOST_WORDS];
        /** Of each seat, the beat in which each word comes to it, or NONE. */
        final int[][] comesAt = new int[SEATS][MOST_WORDS];
        /** Of each seat, the beat in which each word was heard there first, or NONE. */
        final int[][] firstHeardAt = new int[SEATS][MOST_WORDS];
        /** Of each seat, the number of the word heard in each beat that is over, or NONE. */
        final int[][] heardNumber = new int[SEATS][LAST_BEAT];
        /** How many words each message has; its place is told by messagePlace. */
        final int[] messageWords = new int[SEATS * MARKS];

        void become(Chamber other) {
            beat = other.beat;
            words = other.words;
            System.arraycopy(other.walls, 0, walls, 0, walls.length);
            System.arraycopy(other.settings, 0, settings, 0, settings.length);
            System.arraycopy(other.seatOf, 0, seatOf, 0, words);
            System.arraycopy(other.wordOf, 0, wordOf, 0, words);
            System.arraycopy(other.markOf, 0, markOf, 0, words);
            System.arraycopy(other.saidAt, 0, saidAt, 0, words);
            System.arraycopy(other.messageWords, 0, messageWords, 0, messageWords.length);
            for (int seat = 0; seat < SEATS; seat++) {
                System.arraycopy(other.comesAt[seat], 0, comesAt[seat], 0, words);
                System.arraycopy(other.firstHeardAt[seat], 0, firstHeardAt[seat], 0, words);
                System.arraycopy(other.heardNumber[seat], 0, heardNumber[seat], 0, beat);
            }
        }

        boolean canSpeak() {
            return words < MOST_WORDS && beat < LAST_BEAT;
        }

        int speak(int seat, int word, int mark) {
            int number = words;
            seatOf[number] = seat;
            wordOf[number] = word;
            markOf[number] = mark;
            saidAt[number] = beat;
            for (int hearer = 0; hearer < SEATS; hearer++) {
                int delay = delayBetween(seat, hearer);
                comesAt[hearer][number] = delay == NONE ? NONE : beat + delay;
                firstHeardAt[hearer][number] = NONE;
            }
            if (mark != NONE) {
                messageWords[messagePlace(seat, mark)]++;
            }
            words++;
            endBeat();
            return number;
        }

        boolean canRest(int beats) {
            return beat + beats <= LAST_BEAT;
        }

        void rest(int beats) {
            for (int passed = 0; passed < beats; passed++) {
                endBeat();
            }
        }

        private void endBeat() {
            for (int seat = 0; seat < SEATS; seat++) {
                int number = secondLast(seat, beat);
                heardNumber[seat][beat] = number;
                if (number != NONE && firstHeardAt[seat][number] == NONE) {
                    firstHeardAt[seat][number] = beat;
                }
            }
            beat++;
        }

        /** The delay of a word that is said now, or NONE if the wall swallows it. */
        int delayBetween(int from, int to) {
            int steps = Math.abs(from - to);
            int distance = Math.min(steps, SEATS - steps);
            int delay = settings[BASE_DELAY] + settings[STEP_DELAY] * distance;
            switch (walls[to]) {
                case HUNG:
                    return distance == FARTHEST ? NONE : delay;
                case HOLLOW:
                    return delay + HOLLOW_ECHO;
                case OPEN:
                    return distance == 1 ? NONE : delay;
                default:
                    return delay;
            }
        }

        /** The word that is the second-last voice at a seat in a beat of now or later, or NONE. */
        int secondLast(int seat, int atBeat) {
            int[] comes = comesAt[seat];
            int earliest = atBeat - settings[MEMORY];
            int last = NONE;
            int second = NONE;
            // Words said before this bound came before the earliest beat that counts.
            for (int number = words - 1;
                    number >= 0 && saidAt[number] >= earliest - LONGEST_DELAY; number--) {
                int came = comes[number];
                if (came == NONE || came < earliest || came > atBeat) {
                    continue;
                }
                // The later word is seen first, so that it stays ahead of one of the same beat.
                if (last == NONE || came > comes[last]) {
                    second = last;
                    last = number;
                } else if (second == NONE || came > comes[second]) {
                    second = number;
                }
            }
            return second;
        }

        static int messagePlace(int from, int mark) {
            return from * MARKS + mark;
        }
    }

    /** What can be told of a chamber; it changes nothing. */
    private static final class Report {
        private final Chamber chamber;

        Report(Chamber chamber) {
            this.chamber = chamber;
        }

        int ofWord(int number, int what) {
            switch (what) {
                case 0:
                    return chamber.seatOf[number];
                case 1:
                    return chamber.wordOf[number];
                case 2:
                    return chamber.markOf[number];
                case 3:
                    return chamber.saidAt[number];
                case 4:
                    return maskOf(chamber.comesAt, number);
                default:
                    return maskOf(chamber.firstHeardAt, number);
            }
        }

        /** The seats for which a word has a beat. */
        private int maskOf(int[][] beats, int number) {
            int mask = 0;
            for (int seat = 0; seat < SEATS; seat++) {
                if (beats[seat][number] != NONE) {
                    mask |= 1 << seat;
                }
            }
            return mask;
        }

        int ofBeat(int seat, int beat, int what) {
            int number = chamber.heardNumber[seat][beat];
            if (number == NONE || what == 0) {
                return number;
            }
            if (what == 1) {
                return chamber.wordOf[number];
            }
            return isRepeated(seat, beat) ? 1 : 0;
        }

        private boolean isRepeated(int seat, int beat) {
            int[] row = chamber.heardNumber[seat];
            return beat > 0 && row[beat] != NONE && row[beat] == row[beat - 1];
        }

        int ofSpeaker(int seat, int what) {
            switch (what) {
                case 0:
                    return chamber.walls[seat];
                case 1:
                    return heardBeats(seat);
                case 2:
                    return heardWordsByBeats(seat);
                case 3:
                    return repeatedBeats(seat);
                case 4:
                    return chamber.beat - heardBeats(seat);
                case 5:
                    return gaps(seat);
                case 6:
                    return wordsSaidBy(seat);
                default:
                    return heardWordsByWords(seat);
            }
        }

        private int heardBeats(int seat) {
            int beats = 0;
            for (int beat = 0; beat < chamber.beat; beat++) {
                if (chamber.heardNumber[seat][beat] != NONE) {
                    beats++;
                }
            }
            return beats;
        }

        private int heardWordsByBeats(int seat) {
            int heardWords = 0;
            for (int beat = 0; beat < chamber.beat; beat++) {
                int number = chamber.heardNumber[seat][beat];
                if (number != NONE && chamber.firstHeardAt[seat][number] == beat) {
                    heardWords++;
                }
            }
            return heardWords;
        }

        private int heardWordsByWords(int seat) {
            int heardWords = 0;
            for (int number = 0; number < chamber.words; number++) {
                if (chamber.firstHeardAt[seat][number] != NONE) {
                    heardWords++;
                }
            }
            return heardWords;
        }

        private int repeatedBeats(int seat) {
            int beats = 0;
            for (int beat = 0; beat < chamber.beat; beat++) {
                if (isRepeated(seat, beat)) {
                    beats++;
                }
            }
            return beats;
        }

        private int gaps(int seat) {
            int gaps = 0;
            boolean heardSome = false;
            boolean silentSince = false;
            for (int beat = 0; beat < chamber.beat; beat++) {
                if (chamber.heardNumber[seat][beat] == NONE) {
                    silentSince = heardSome;
                } else {
                    if (silentSince) {
                        gaps++;
                    }
                    heardSome = true;
                    silentSince = false;
                }
            }
            return gaps;
        }

        private int wordsSaidBy(int seat) {
            int words = 0;
            for (int number = 0; number < chamber.words; number++) {
                if (chamber.seatOf[number] == seat) {
                    words++;
                }
            }
            return words;
        }

        int hearingOf(int from, int mark, int seat) {
            int all = chamber.messageWords[Chamber.messagePlace(from, mark)];
            if (all == 0) {
                return NONE;
            }
            int heardWords = 0;
            int latest = NONE;
            boolean inOrder = true;
            for (int number = 0; number < chamber.words; number++) {
                int first = chamber.firstHeardAt[seat][number];
                boolean belongs = chamber.seatOf[number] == from && chamber.markOf[number] == mark;
                if (belongs && first != NONE) {
                    heardWords++;
                    inOrder = inOrder && first > latest;
                    latest = first;
                }
            }
            if (heardWords < all) {
                return heardWords == 0 ? NOT_AT_ALL : BROKEN;
            }
            return inOrder ? WHOLE : OUT_OF_ORDER;
        }

        int ofAll(int what) {
            switch (what) {
                case 0:
                    return chamber.beat;
                case 1:
                    return chamber.words;
                case 2:
                    return wordsHeardByMask((1 << SEATS) - 1);
                case 3:
                    return wordsHeardByMask(0);
                case 4:
                    return messages();
                case 5:
                    return messagesHeardWhole();
                case 6:
                    return chamber.settings[BASE_DELAY];
                case 7:
                    return chamber.settings[STEP_DELAY];
                default:
                    return chamber.settings[MEMORY];
            }
        }

        private int wordsHeardByMask(int mask) {
            int words = 0;
            for (int number = 0; number < chamber.words; number++) {
                if (maskOf(chamber.firstHeardAt, number) == mask) {
                    words++;
                }
            }
            return words;
        }

        private int messages() {
            int messages = 0;
            for (int place = 0; place < chamber.messageWords.length; place++) {
                if (chamber.messageWords[place] > 0) {
                    messages++;
                }
            }
            return messages;
        }

        private int messagesHeardWhole() {
            int messages = 0;
            for (int from = 0; from < SEATS; from++) {
                for (int mark = 0; mark < MARKS; mark++) {
                    if (allHeardWhole(from, mark)) {
                        messages++;
                    }
                }
            }
            return messages;
        }

        private boolean allHeardWhole(int from, int mark) {
            for (int seat = 0; seat < SEATS; seat++) {
                if (hearingOf(from, mark, seat) != WHOLE) {
                    return false;
                }
            }
            return true;
        }

        int whyUnheard(int number, int seat) {
            if (chamber.firstHeardAt[seat][number] != NONE) {
                return 0;
            }
            int came = chamber.comesAt[seat][number];
            if (came == NONE) {
                return 1;
            }
            return came >= chamber.beat ? 2 : 3;
        }

        int silentBeatsUntilHeard(int number, int seat) {
            if (chamber.firstHeardAt[seat][number] != NONE) {
                return 0;
            }
            for (int beats = 1; beats <= LOOK_AHEAD; beats++) {
                if (chamber.secondLast(seat, chamber.beat + beats - 1) == number) {
                    return beats;
                }
            }
            return NONE;
        }

        int bestPlace() {
            int best = 0;
            int mostReached = 0;
            int bestDelay = 0;
            for (int from = 0; from < SEATS; from++) {
                int reached = 0;
                int longest = 0;
                for (int to = 0; to < SEATS; to++) {
                    int delay = chamber.delayBetween(from, to);
                    if (delay != NONE) {
                        reached++;
                        longest = Math.max(longest, delay);
                    }
                }
                if (reached > mostReached || (reached == mostReached && longest < bestDelay)) {
                    best = from;
                    mostReached = reached;
                    bestDelay = longest;
                }
            }
            return best;
        }

        double share() {
            if (chamber.beat <= 0) {
                return 0.0;
            }
            int beats = 0;
            for (int seat = 0; seat < SEATS; seat++) {
                beats += heardBeats(seat);
            }
            return (double) beats / (SEATS * chamber.beat);
        }
    }

    /** The latest saved states, the oldest one first. */
    private static final class History {
        int size;
        private final Chamber[] saved = new Chamber[MOST_SAVED];

        void save(Chamber chamber) {
            if (size >= MOST_SAVED) {
                dropOldest();
            }
            // A slot is made when it is first needed, and used again from then on.
            Chamber slot = saved[size];
            if (slot == null) {
                slot = new Chamber();
                saved[size] = slot;
            }
            slot.become(chamber);
            size++;
        }

        private void dropOldest() {
            Chamber oldest = saved[0];
            for (int place = 1; place < MOST_SAVED; place++) {
                saved[place - 1] = saved[place];
            }
            saved[MOST_SAVED - 1] = oldest;
            size = MOST_SAVED - 1;
        }

        Chamber latest() {
            return size > 0 ? saved[size - 1] : null;
        }

        void dropLatest() {
            if (size > 0) {
                size--;
            }
        }
    }

    /** The buffer, read as a dialogue. */
    private static final class Text {
        private static final int WRONG = -1;
        private static final int PART_START = 0;
        private static final int BEHIND_SEAT = 1;
        private static final int WORD_START = 2;
        private static final int WORD_DIGIT = 3;
        private static final int WORD_END = 4;
        private static final int MARK_START = 5;
        private static final int PAUSE_START = 6;
        private static final int PAUSE_DIGIT = 7;
        private static final int PAUSE_FIVE = 8;
        private static final int PART_END = 9;

        int length;
        final char[] signs = new char[MOST_SIGNS];

        void add(char sign) {
            if (length < MOST_SIGNS) {
                signs[length] = sign;
                length++;
            }
        }

        int errorPlace() {
            int state = PART_START;
            for (int place = 0; place < length; place++) {
                state = next(state, signs[place]);
                if (state == WRONG) {
                    return place;
                }
            }
            return length;
        }

        boolean isComplete() {
            int state = PART_START;
            for (int place = 0; place < length; place++) {
                state = next(state, signs[place]);
            }
            switch (state) {
                case WORD_DIGIT:
                case WORD_END:
                case PAUSE_DIGIT:
                case PAUSE_FIVE:
                case PART_END:
                    return true;
                default:
                    return false;
            }
        }

        private static int next(int state, char sign) {
            switch (state) {
                case PART_START:
                    return sign == '.' ? PAUSE_START : isWithin(sign, '0', '5') ? BEHIND_SEAT : WRONG;
                case BEHIND_SEAT:
                    return sign == ':' ? WORD_START : WRONG;
                case WORD_START:
                    return isWithin(sign, '1', '9') ? WORD_DIGIT : WRONG;
                case WORD_DIGIT:
                    return isDigit(sign) ? WORD_END : behindWord(sign);
                case WORD_END:
                    return behindWord(sign);
                case MARK_START:
                    return isDigit(sign) ? PART_END : WRONG;
                case PAUSE_START:
                    return pauseDigit(sign);
                case PAUSE_DIGIT:
                    return isDigit(sign) ? PART_END : behindPart(sign);
                case PAUSE_FIVE:
                    return sign == '0' ? PART_END : behindPart(sign);
                case PART_END:
                    return behindPart(sign);
                default:
                    return WRONG;
            }
        }

        private static int behindWord(char sign) {
            if (sign == ',') {
                return WORD_START;
            }
            return sign == '#' ? MARK_START : behindPart(sign);
        }

        private static int behindPart(char sign) {
            return sign == ';' ? PART_START : WRONG;
        }

        /** A pause has at most 50 beats, so its first digit tells what may follow. */
        private static int pauseDigit(char sign) {
            if (isWithin(sign, '1', '4')) {
                return PAUSE_DIGIT;
            }
            if (sign == '5') {
                return PAUSE_FIVE;
            }
            return isWithin(sign, '6', '9') ? PART_END : WRONG;
        }

        private static boolean isDigit(char sign) {
            return isWithin(sign, '0', '9');
        }

        /** Lets a complete dialogue happen, up to the first part of it that cannot. */
        void happenIn(Chamber chamber) {
            int start = 0;
            for (int place = 0; place <= length; place++) {
                if (place == length || signs[place] == ';') {
                    if (!partHappens(chamber, start, place)) {
                        return;
                    }
                    start = place + 1;
                }
            }
        }

        private boolean partHappens(Chamber chamber, int start, int end) {
            return signs[start] == '.' ? restIn(chamber, start, end) : speakIn(chamber, start, end);
        }

        private boolean restIn(Chamber chamber, int start, int end) {
            int beats = 0;
            for (int place = start + 1; place < end; place++) {
                beats = beats * 10 + (signs[place] - '0');
            }
            if (!chamber.canRest(beats)) {
                return false;
            }
            chamber.rest(beats);
            return true;
        }

        private boolean speakIn(Chamber chamber, int start, int end) {
            int seat = signs[start] - '0';
            boolean marked = end - 2 > start && signs[end - 2] == '#';
            int mark = marked ? signs[end - 1] - '0' : NONE;
            int wordsEnd = marked ? end - 2 : end;
            int word = 0;
            for (int place = start + 2; place <= wordsEnd; place++) {
                if (place < wordsEnd && signs[place] != ',') {
                    word = word * 10 + (signs[place] - '0');
                } else {
                    if (!chamber.canSpeak()) {
                        return false;
                    }
                    chamber.speak(seat, word, mark);
                    word = 0;
                }
            }
            return true;
        }
    }

    /** A hash that takes one value behind the other. */
    private static final class Hash {
        private static final int FRACTION_BITS = 52;
        private static final long FRACTIONS = 1L << FRACTION_BITS;
        private static final int EXPONENT_OF_ONE = 1023;

        long value = 3853;

        void take(long next) {
            value = 31 * value + next;
        }

        /**
         * The bits of a share from 0.0 to 1.0, worked out by exact steps, since
         * Double.doubleToLongBits is outside the part of the library that may be used.
         */
        static long bitsOf(double share) {
            if (share <= 0.0) {
                return 0L;
            }
            double scaled = share;
            int exponent = EXPONENT_OF_ONE;
            for (int step = 0; step < EXPONENT_OF_ONE && scaled < 1.0; step++) {
                scaled = scaled * 2.0;
                exponent--;
            }
            return ((long) exponent << FRACTION_BITS) | (long) ((scaled - 1.0) * FRACTIONS);
        }
    }
}

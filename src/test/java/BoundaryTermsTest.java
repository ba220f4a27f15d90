/** The boundary cases of the chapter "Terms", but for the texts and undo: a test by sentence. */
public final class BoundaryTermsTest {
    private static final int NONE = Checks.NONE;

    /** The fewer steps around, from each seat to each. */
    private static final int[][] DISTANCE = {
        {0, 1, 2, 3, 2, 1},
        {1, 0, 1, 2, 3, 2},
        {2, 1, 0, 1, 2, 3},
        {3, 2, 1, 0, 1, 2},
        {2, 3, 2, 1, 0, 1},
        {1, 2, 3, 2, 1, 0}};

    public static void main(String[] args) {
        calls();
        seats();
        walls();
        delays();
        words();
        hearingInTime();
        hearingInOrder();
        whatWasHeard();
        repeated();
        gaps();
        messages();
        settings();
        Checks.finish("BoundaryTermsTest");
    }

    private static void calls() {
        Checks.test("An object is used for at most 512 calls after it has been made", () -> {
            EchoLine x = new EchoLine();
            for (int call = 1; call <= 512; call++) {
                due("wall, call " + call, x.wall(call % 2, call / 2 % 4), call < 2 ? 0 : (call / 2 - 1) % 4);
            }
        });
    }

    private static void seats() {
        Checks.test("There are 6 seats, numbered from 0", () -> {
            EchoLine x = new EchoLine();
            due("lowest seat", x.say(0, 1, NONE), 0);
            due("highest seat", x.say(5, 1, NONE), 1);
            Checks.dueEach("seat", number -> x.said(number, 0), 0, 5);
        });
        Checks.test("the seat 5 is beside the seat 0", () -> {
            EchoLine x = stepsAlone();
            x.say(5, 1, NONE);
            due("from 5 to 0", x.comes(0, 0), 1);
            x.say(0, 1, NONE);
            due("from 0 to 5", x.comes(1, 5), 1 + 1);
            x.say(4, 1, NONE);
            due("from 4 to 0", x.comes(2, 0), 2 + 2);
            x.say(1, 1, NONE);
            due("from 1 to 5", x.comes(3, 5), 3 + 2);
        });
        Checks.test("The distance of two seats is the fewer steps around", () -> {
            for (int from = 0; from < 6; from++) {
                EchoLine x = stepsAlone();
                x.say(from, 1, NONE);
                Checks.dueEach("distance from " + from, seat -> x.comes(0, seat), DISTANCE[from]);
            }
        });
    }

    /** The delay is the distance, without anything more. */
    private static EchoLine stepsAlone() {
        EchoLine x = new EchoLine();
        x.set(0, 0);
        return x;
    }

    private static void walls() {
        Checks.test("all bare at first", () -> {
            EchoLine x = new EchoLine();
            Checks.dueEach("kind of the wall", seat -> x.speaker(seat, 0), 0, 0, 0, 0, 0, 0);
        });
        Checks.test("bare: with its delay", () -> delaysBy(Checks.BARE, 1, 2, 3, 4));
        Checks.test("hung: never, if its distance is 3, otherwise with its delay", () ->
                delaysBy(Checks.HUNG, 1, 2, 3, NONE));
        Checks.test("hollow: with its delay and 2 more", () -> delaysBy(Checks.HOLLOW, 3, 4, 5, 6));
        Checks.test("open: with its delay, but never from the seats beside it", () ->
                delaysBy(Checks.OPEN, 1, NONE, 3, 4));
        Checks.test("By the wall behind the seat of the one who hears", () -> {
            for (int kind = 0; kind <= 3; kind++) {
                EchoLine x = new EchoLine();
                x.wall(2, kind);
                x.say(2, 1, NONE);
                int own = kind == Checks.HOLLOW ? 3 : 1;
                Checks.dueEach("from the wall " + kind, seat -> x.comes(0, seat), 3, 2, own, 2, 3, 4);
            }
        });
    }

    /** One seat has the wall; what each of the six says comes to it by its distance. */
    private static void delaysBy(int kind, int... byDistance) {
        for (int hearer = 0; hearer < 6; hearer++) {
            EchoLine x = new EchoLine();
            x.wall(hearer, kind);
            for (int from = 0; from < 6; from++) {
                int number = x.say(from, 1, NONE);
                int delay = byDistance[DISTANCE[from][hearer]];
                due("from " + from + " to " + hearer, x.comes(number, hearer),
                        delay == NONE ? NONE : from + delay);
                int bare = (hearer + 1) % 6;
                due("from " + from + " to a bare wall", x.comes(number, bare), from + 1 + DISTANCE[from][bare]);
            }
        }
    }

    private static void delays() {
        Checks.test("setting 0 and setting 1 times their distance, together: the shortest", () -> {
            EchoLine x = Checks.withoutDelay();
            x.say(1, 1, NONE);
            Checks.dueEach("comes", seat -> x.comes(0, seat), 0, 0, 0, 0, 0, 0);
        });
        Checks.test("setting 0 and setting 1 times their distance, together: the longest", () -> {
            EchoLine x = new EchoLine();
            x.set(0, 5);
            x.set(1, 4);
            x.say(1, 1, NONE);
            Checks.dueEach("comes", seat -> x.comes(0, seat), 9, 5, 9, 13, 17, 13);
        });
        Checks.test("setting 0 and setting 1 times their distance, together, and 2 more", () -> {
            EchoLine x = new EchoLine();
            x.set(0, 5);
            x.set(1, 4);
            x.wall(4, Checks.HOLLOW);
            x.say(1, 1, NONE);
            due("comes", x.comes(0, 4), 19);
            x.say(2, 2, NONE);
            x.pass(16);
            due("the one that was said later came sooner", x.comes(1, 4), 16);
            due("the other one not yet in the beat 18", x.ifSilent(4), NONE);
            x.pass(1);
            due("in the beat 19", x.ifSilent(4), 1);
        });
        Checks.test("A speaker hears the own words, too, by the distance 0 and the own wall", () -> {
            int[] own = {0, 0, 2, 0};
            for (int kind = 0; kind <= 3; kind++) {
                EchoLine x = Checks.withoutDelay();
                x.wall(3, kind);
                x.say(3, 1, NONE);
                due("own word, wall " + kind, x.comes(0, 3), own[kind]);
                x.say(3, 2, NONE);
                x.pass(2);
                due("heard, wall " + kind, x.heard(3, 1 + own[kind], 0), 0);
                due("not before, wall " + kind, x.heard(3, own[kind], 0), NONE);
            }
        });
    }

    private static void words() {
        Checks.test("The time is counted in beats, from 0", () -> {
            EchoLine x = new EchoLine();
            due("the first beat", x.count(0), 0);
            x.say(0, 1, NONE);
            due("said in the beat", x.said(0, 3), 0);
        });
        Checks.test("it is said in the beat of now, and then the beat is over", () -> {
            EchoLine x = Checks.atBeat(7);
            x.say(0, 1, NONE);
            due("said in the beat", x.said(0, 3), 7);
            due("the beat then", x.count(0), 8);
            x.say(0, 1, NONE);
            due("the next one in the beat", x.said(1, 3), 8);
        });
        Checks.test("Words are numbered from 0 in the order in which they were said; at most 200", () -> {
            EchoLine x = new EchoLine();
            for (int number = 0; number < 200; number++) {
                due("number", x.say(5 - number % 6, 1 + number % 99, number % 10), number);
            }
            due("words", x.count(1), 200);
            Checks.dueEach("seats of the first", number -> x.said(number, 0), 5, 4, 3, 2, 1, 0, 5);
            due("the last word", x.said(199, 1), 1 + 199 % 99);
            due("behind the last word", x.said(200, 1), NONE);
        });
        Checks.test("A word comes to a seat in the beat in which it was said, and as many more", () -> {
            EchoLine x = new EchoLine();
            x.set(0, 0);
            x.pass(3);
            x.say(0, 1, NONE);
            Checks.dueEach("comes", seat -> x.comes(0, seat), 3, 4, 5, 6, 5, 4);
        });
    }

    private static void hearingInTime() {
        Checks.test("of the words that came to the seat up to this beat", () -> {
            EchoLine x = new EchoLine();
            x.set(1, 0);
            x.set(0, 0);
            x.say(0, 1, NONE);
            x.set(0, 3);
            x.say(0, 2, NONE);
            // The second one comes in the beat 4.
            x.pass(4);
            due("a beat before it comes", x.heard(0, 3, 0), NONE);
            due("in the beat in which it comes", x.heard(0, 4, 0), 0);
        });
        Checks.test("and not more than setting 2 beats ago: at first 8", () -> heardUpTo(8));
        Checks.test("and not more than setting 2 beats ago: the lowest", () -> heardUpTo(1));
        Checks.test("and not more than setting 2 beats ago: the highest", () -> heardUpTo(50));
        Checks.test("and not more than setting 2 beats ago: by when it came, however long before it was said", () -> {
            for (int memory : new int[] {1, 8, 50}) {
                EchoLine x = new EchoLine();
                x.set(0, 5);
                x.set(1, 4);
                x.set(2, memory);
                x.wall(4, Checks.HOLLOW);
                x.say(1, 1, NONE);
                x.say(1, 2, NONE);
                // They come in the beats 19 and 20.
                x.pass(40);
                x.pass(40);
                for (int beat = 0; beat < 80; beat++) {
                    boolean both = beat >= 20 && beat <= 19 + memory;
                    due("heard in " + beat, x.heard(4, beat, 0), both ? 0 : NONE);
                }
            }
        });
        Checks.test("If there are fewer than two such words, there is silence: none and one", () -> {
            EchoLine x = Checks.withoutDelay();
            x.pass(1);
            due("no word", x.heard(0, 0, 0), NONE);
            x.say(0, 1, NONE);
            due("one word", x.heard(0, 1, 0), NONE);
            x.say(0, 1, NONE);
            due("two words", x.heard(0, 2, 0), 0);
        });
        Checks.test("If there are fewer than two such words, there is silence: the last one alone", () -> {
            EchoLine x = Checks.withoutDelay();
            x.set(2, 3);
            x.say(0, 1, NONE);
            x.pass(1);
            x.say(0, 2, NONE);
            x.pass(3);
            due("both within three beats", x.heard(0, 3, 0), 0);
            due("the first is four beats ago", x.heard(0, 4, 0), NONE);
            due("the last is three beats ago", x.heard(0, 5, 0), NONE);
        });
        Checks.test("If there are fewer than two such words, there is silence: swallowed ones", () -> {
            EchoLine x = Checks.withoutDelay();
            x.wall(0, Checks.OPEN);
            x.say(1, 1, NONE);
            x.say(5, 2, NONE);
            x.say(0, 3, NONE);
            due("one of three came", x.heard(0, 2, 0), NONE);
            x.say(3, 4, NONE);
            due("two of four came", x.heard(0, 3, 0), 2);
        });
    }

    /** Two words come in the beats 0 and 1; the first one is heard as long as it counts. */
    private static void heardUpTo(int memory) {
        EchoLine x = Checks.withoutDelay();
        if (memory != 8) {
            x.set(2, memory);
        }
        x.say(0, 1, NONE);
        x.say(0, 2, NONE);
        x.pass(49);
        x.pass(2);
        for (int beat = 1; beat < 53; beat++) {
            due("heard in " + beat, x.heard(3, beat, 0), beat <= memory ? 0 : NONE);
        }
    }

    private static void hearingInOrder() {
        Checks.test("the one that came second-last: not the one that was said second-last", () -> {
            // They come in the beats 5, 2 and 3.
            EchoLine x = comingIn(5, 2, 3);
            due("of two", x.heard(0, 3, 0), 1);
            due("nothing new", x.heard(0, 4, 0), 1);
            due("of three, the slowest last", x.heard(0, 5, 0), 2);
        });
        Checks.test("of words that came in the same beat the one said later came later: two", () -> {
            EchoLine x = comingIn(4, 4);
            due("before", x.heard(0, 3, 0), NONE);
            due("the one said first", x.heard(0, 4, 0), 0);
        });
        Checks.test("of words that came in the same beat the one said later came later: three", () -> {
            due("the middle one", comingIn(4, 4, 4).heard(0, 4, 0), 1);
        });
        Checks.test("of words that came in the same beat the one said later came later: four", () -> {
            due("the third one", comingIn(4, 4, 4, 4).heard(0, 4, 0), 2);
        });
        Checks.test("of words that came in the same beat the one said later came later: one before", () -> {
            EchoLine x = comingIn(2, 4, 4);
            due("the first of the two", x.heard(0, 4, 0), 1);
        });
        Checks.test("of words that came in the same beat the one said later came later: one behind", () -> {
            due("said behind them", comingIn(4, 4, 5).heard(0, 5, 0), 1);
            due("said ahead of them", comingIn(5, 4, 4).heard(0, 5, 0), 2);
            due("said between them", comingIn(4, 5, 4).heard(0, 5, 0), 2);
        });
        Checks.test("of words that came in the same beat the one said later came later: in its own beat", () -> {
            due("said in the beat itself", comingIn(1, 1).heard(0, 1, 0), 0);
        });
    }

    /** Words are said in the beats from 0 on, and come to all seats in these ones, at most 5. */
    private static EchoLine comingIn(int... beats) {
        EchoLine x = new EchoLine();
        x.set(1, 0);
        for (int number = 0; number < beats.length; number++) {
            x.set(0, beats[number] - number);
            x.say(0, 1 + number, NONE);
            due("comes", x.comes(number, 3), beats[number]);
        }
        x.pass(6 - beats.length);
        return x;
    }

    private static void whatWasHeard() {
        Checks.test("What was heard in a beat is told when it is over", () -> {
            EchoLine x = Checks.withoutDelay();
            x.say(0, 1, NONE);
            x.say(0, 2, NONE);
            due("the beat before", x.heard(0, 1, 0), 0);
            due("would be heard now", x.ifSilent(0), 0);
            due("the beat of now", x.heard(0, 2, 0), NONE);
            x.pass(1);
            due("over", x.heard(0, 2, 0), 0);
        });
        Checks.test("Of each speaker the words that were heard are kept", () -> {
            EchoLine x = Checks.withoutDelay();
            x.say(0, 1, NONE);
            x.say(0, 2, NONE);
            x.set(2, 1);
            x.pass(5);
            x.set(2, 50);
            x.wall(0, Checks.HOLLOW);
            due("a word", x.heard(0, 1, 0), 0);
            Checks.dueEach("silence", behind -> x.heard(0, 2 + behind, 0), NONE, NONE, NONE, NONE, NONE);
        });
        Checks.test("one for each beat, from the beat 0 on: the number of a word, or silence", () -> {
            EchoLine x = Checks.withoutDelay();
            due("no beat", x.speaker(0, 1) + x.speaker(0, 4), 0);
            x.say(0, 1, NONE);
            due("the beat 0", x.heard(0, 0, 0), NONE);
            due("one silent beat", x.speaker(0, 4), 1);
            x.say(0, 2, NONE);
            x.pass(9);
            due("beats with a word", x.speaker(0, 1), 8);
            due("beats without", x.speaker(0, 4), 3);
        });
    }

    private static void repeated() {
        Checks.test("heard in the beat ahead of it, too: not when it is heard first", () -> {
            EchoLine x = Checks.withoutDelay();
            x.say(0, 1, NONE);
            x.say(0, 2, NONE);
            x.pass(1);
            due("first", x.heard(0, 1, 2), 0);
            due("again", x.heard(0, 2, 2), 1);
            due("marked", x.speaker(0, 3), 1);
        });
        Checks.test("heard in the beat ahead of it, too: not if that was another word", () -> {
            EchoLine x = Checks.withoutDelay();
            x.say(0, 7, NONE);
            x.say(0, 7, NONE);
            x.say(0, 7, NONE);
            due("the word 0", x.heard(0, 1, 0), 0);
            due("the word 1, of the same number", x.heard(0, 2, 0), 1);
            due("not repeated", x.heard(0, 2, 2), 0);
            due("marked", x.speaker(0, 3), 0);
        });
        Checks.test("heard in the beat ahead of it, too: not behind a silent beat", () -> {
            EchoLine x = Checks.withoutDelay();
            x.say(0, 1, NONE);
            x.say(0, 2, NONE);
            x.set(2, 1);
            x.pass(1);
            x.set(2, 8);
            x.pass(2);
            Checks.dueEach("heard", beat -> x.heard(0, beat, 0), NONE, 0, NONE, 0, 0);
            Checks.dueEach("marked", beat -> x.heard(0, beat, 2), NONE, 0, NONE, 0, 1);
        });
        Checks.test("A word that is heard: silence behind silence is not marked", () -> {
            EchoLine x = Checks.atBeat(3);
            Checks.dueEach("marked", beat -> x.heard(0, beat, 2), NONE, NONE, NONE);
            due("marked beats", x.speaker(0, 3), 0);
        });
    }

    private static void gaps() {
        Checks.test("A gap is a silence of one or more beats: none", () -> {
            EchoLine x = Checks.withoutDelay();
            x.say(0, 1, NONE);
            x.say(0, 2, NONE);
            x.say(0, 3, NONE);
            due("words behind one another", x.speaker(0, 5), 0);
        });
        Checks.test("A gap is a silence of one or more beats: one", () -> {
            // The words come in the beats 0, 1, 3 and 3, and count one beat long.
            EchoLine x = new EchoLine();
            x.set(2, 1);
            x.set(1, 0);
            x.set(0, 0);
            x.say(0, 1, NONE);
            x.say(0, 2, NONE);
            x.set(0, 1);
            x.say(0, 3, NONE);
            x.set(0, 0);
            x.say(0, 4, NONE);
            Checks.dueEach("heard", beat -> x.heard(0, beat, 0), NONE, 0, NONE, 2);
            due("one silent beat", x.speaker(0, 5), 1);
        });
        Checks.test("A gap is a silence of one or more beats: many, and more than one gap", () -> {
            EchoLine x = gapsOfTwo();
            due("two of many beats", x.speaker(3, 5), 2);
        });
        Checks.test("behind some word that was heard: not at the beginning", () -> {
            EchoLine x = Checks.withoutDelay();
            x.pass(9);
            x.say(0, 1, NONE);
            x.say(0, 2, NONE);
            due("silence, and a word", x.heard(0, 10, 0), 0);
            due("no gap", x.speaker(0, 5), 0);
        });
        Checks.test("and ahead of another one: not at the end", () -> {
            EchoLine x = Checks.withoutDelay();
            x.say(0, 1, NONE);
            x.say(0, 2, NONE);
            x.pass(20);
            due("a word, and silence", x.heard(0, 21, 0), NONE);
            due("no gap yet", x.speaker(0, 5), 0);
            x.say(0, 3, NONE);
            due("one word that came", x.speaker(0, 5), 0);
            x.say(0, 4, NONE);
            due("a gap", x.speaker(0, 5), 1);
        });
        Checks.test("and ahead of another one: read as told by the beats, also if it is the same word", () -> {
            EchoLine x = Checks.withoutDelay();
            x.say(0, 1, NONE);
            x.say(0, 2, NONE);
            x.set(2, 1);
            x.pass(1);
            x.set(2, 8);
            x.pass(1);
            Checks.dueEach("heard", beat -> x.heard(0, beat, 0), NONE, 0, NONE, 0);
            due("a gap", x.speaker(0, 5), 1);
        });
        Checks.test("A gap: silence throughout is none", () ->
                due("no gap", Checks.atBeat(400).speaker(0, 5), 0));
    }

    private static EchoLine gapsOfTwo() {
        EchoLine x = Checks.withoutDelay();
        for (int pair = 0; pair < 3; pair++) {
            x.say(pair, 1, NONE);
            x.say(pair, 2, NONE);
            x.pass(20);
        }
        return x;
    }

    private static void messages() {
        Checks.test("all words that one speaker said with the same mark, 0 to 9", () -> {
            EchoLine x = new EchoLine();
            x.say(0, 1, 0);
            x.say(0, 2, 9);
            x.say(1, 3, 9);
            due("messages", x.count(4), 3);
            due("the lowest mark, heard behind the next word", x.message(0, 0, 0), 3);
            due("the highest mark, not heard yet", x.message(0, 9, 0), 0);
            due("of another speaker", x.message(1, 9, 0), 0);
            due("this one said none", x.message(1, 0, 0), NONE);
        });
        Checks.test("a word without a mark is of no message", () -> {
            EchoLine x = Checks.withoutDelay();
            x.say(2, 1, NONE);
            x.say(2, 2, 5);
            due("messages", x.count(4), 1);
            x.say(2, 3, NONE);
            due("the one marked word is all", x.message(2, 5, 0), 3);
            for (int mark = 0; mark <= 9; mark++) {
                due("mark " + mark, x.message(2, mark, 0), mark == 5 ? 3 : NONE);
            }
        });
        Checks.test("whole, if each of its words was heard, in the order in which they were said", () -> {
            EchoLine x = twoOfMark6(0, 0);
            due("the first one is heard", x.message(1, 6, 4), 1);
            x.say(3, 3, NONE);
            due("the second one, too", x.message(1, 6, 4), 3);
        });
        Checks.test("broken, if some was heard, and some was not", () -> {
            EchoLine x = twoOfMark6(0, 0);
            x.say(3, 3, NONE);
            x.say(1, 4, 6);
            due("the last one was not", x.message(1, 6, 4), 1);
            EchoLine y = Checks.withoutDelay();
            y.wall(1, Checks.OPEN);
            y.say(0, 1, NONE);
            y.say(2, 2, 6);
            y.wall(1, Checks.BARE);
            y.say(2, 3, 6);
            y.say(0, 4, NONE);
            due("the first one never comes", y.message(2, 6, 1), 1);
            due("to others it does", y.message(2, 6, 0), 3);
        });
        Checks.test("out of order, if all were heard, but some first ahead of one said earlier", () -> {
            // The words come in the beats 5, 1 and 2, and the last one in 5, too.
            EchoLine x = twoOfMark6(5, 0);
            x.say(3, 3, NONE);
            due("the second one is heard", x.message(1, 6, 4), 1);
            x.pass(2);
            x.say(3, 4, NONE);
            due("the first one behind it", x.message(1, 6, 4), 2);
        });
        Checks.test("and not at all otherwise", () -> {
            EchoLine x = Checks.withoutDelay();
            x.say(1, 1, 6);
            due("one word, last voice", x.message(1, 6, 4), 0);
            x.say(3, 2, NONE);
            due("one word, heard", x.message(1, 6, 4), 3);
            EchoLine y = Checks.withoutDelay();
            y.wall(4, Checks.HUNG);
            y.say(1, 1, 6);
            y.say(1, 2, 6);
            y.say(0, 3, NONE);
            due("never comes", y.message(1, 6, 4), 0);
        });
    }

    private static EchoLine twoOfMark6(int delayOfFirst, int delayOfSecond) {
        EchoLine x = Checks.withoutDelay();
        x.set(0, delayOfFirst);
        x.say(1, 1, 6);
        x.set(0, delayOfSecond);
        x.say(1, 2, 6);
        return x;
    }

    private static void settings() {
        Checks.test("Settings and walls hold for words that are said from then on", () -> {
            EchoLine x = new EchoLine();
            x.say(0, 1, NONE);
            x.set(0, 5);
            x.set(1, 4);
            x.wall(3, Checks.HUNG);
            x.wall(1, Checks.OPEN);
            x.wall(2, Checks.HOLLOW);
            Checks.dueEach("said before", seat -> x.comes(0, seat), 1, 2, 3, 4, 3, 2);
            x.say(0, 2, NONE);
            Checks.dueEach("said behind", seat -> x.comes(1, seat), 6, NONE, 16, NONE, 14, 10);
            Checks.dueEach("still", seat -> x.comes(0, seat), 1, 2, 3, 4, 3, 2);
        });
        Checks.test("but setting 2 holds for what is heard from then on", () -> {
            EchoLine x = Checks.withoutDelay();
            x.say(0, 1, NONE);
            x.say(0, 2, NONE);
            x.set(2, 1);
            x.pass(1);
            x.set(2, 3);
            x.pass(2);
            // The first word came in the beat 0, and counts up to the beats 8, 1 and 3.
            Checks.dueEach("heard", beat -> x.heard(0, beat, 0), NONE, 0, NONE, 0, NONE);
        });
        Checks.test("0: 0 to 5, at first 1; 1: 0 to 4, at first 1; 2: 1 to 50, at first 8", () -> {
            EchoLine x = new EchoLine();
            Checks.dueEach("at first", setting -> x.count(6 + setting), 1, 1, 8);
            int[][] bounds = {{0, 5}, {0, 4}, {1, 50}};
            for (int setting = 0; setting <= 2; setting++) {
                for (int value : bounds[setting]) {
                    x.set(setting, value);
                    due("setting " + setting, x.count(6 + setting), value);
                }
            }
        });
    }

    private static void due(String call, long got, long want) {
        Checks.due(call, got, want);
    }
}

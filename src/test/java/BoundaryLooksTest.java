/** The boundary cases of the promises 13 to 19: a test by sentence. */
public final class BoundaryLooksTest {
    private static final int NONE = Checks.NONE;
    private static final int LOW = Checks.LOW;
    private static final int HIGH = Checks.HIGH;
    private static final Class<?> NO_SEAT = Checks.NO_SEAT;
    private static final Class<?> BAD_ARGUMENT = Checks.BAD_ARGUMENT;

    public static void main(String[] args) {
        said();
        saidMasks();
        comes();
        heard();
        heardRefused();
        speaker();
        speakerNumbers();
        message();
        messageRefused();
        count();
        countNumbers();
        countMessages();
        whyNot();
        whyNotRefused();
        Checks.finish("BoundaryLooksTest");
    }

    private static void said() {
        Checks.test("13: number: NONE if there is no such word", () -> {
            EchoLine x = Checks.behindWords(3);
            due("the first one", x.said(0, 1), 1);
            due("the last one", x.said(2, 1), 3);
            for (int number : new int[] {3, 199, 200, HIGH}) {
                Checks.dueEach("behind it, " + number, what -> x.said(number, what),
                        NONE, NONE, NONE, NONE, NONE, NONE);
            }
            due("of a new object", new EchoLine().said(0, 0), NONE);
            x.undo();
            due("undone", x.said(2, 1), NONE);
        });
        Checks.test("13: number: the last one of 200", () -> {
            EchoLine x = Checks.behindWords(200);
            Checks.dueEach("its", what -> what < 4 ? x.said(199, what) : 0, 199 % 6, 1 + 199 % 99, 9, 199);
            due("behind it", x.said(200, 0), NONE);
        });
        Checks.test("13: 2: its mark, NONE without one", () -> {
            EchoLine x = new EchoLine();
            x.say(0, 1, NONE);
            x.say(0, 1, 0);
            x.say(0, 1, 9);
            Checks.dueEach("mark", number -> x.said(number, 2), NONE, 0, 9);
        });
        Checks.test("13: 3: the beat in which it was said: the first one, and the last one", () -> {
            EchoLine x = new EchoLine();
            x.say(0, 1, NONE);
            for (int pause = 0; pause < 7; pause++) {
                x.pass(50);
            }
            x.pass(48);
            x.say(0, 1, NONE);
            Checks.dueEach("beat", number -> x.said(number, 3), 0, 399);
        });
        Checks.test("13: IllegalArgumentException if number is below 0", () -> {
            for (int number : new int[] {-1, LOW}) {
                Checks.refused("said " + number, BAD_ARGUMENT, x -> x.said(number, 0), EchoLine::new, Checks::busy);
            }
        });
        Checks.test("13: IllegalArgumentException if what is not 0 to 5", () -> {
            for (int what : new int[] {-1, 6, LOW, HIGH}) {
                Checks.refused("said, " + what, BAD_ARGUMENT, x -> x.said(0, what), EchoLine::new, Checks::busy);
                Checks.refused("no word, " + what, BAD_ARGUMENT, x -> x.said(HIGH, what), Checks::busy);
            }
        });
    }

    private static void saidMasks() {
        Checks.test("13: 4: a mask of the seats to which it comes, with the bit s for the seat s", () -> {
            EchoLine x = new EchoLine();
            x.say(0, 1, NONE);
            due("all", x.said(0, 4), 63);
            // From 3 it comes neither to 0, opposite, nor to 2 and 4, beside it.
            x.wall(0, Checks.HUNG);
            x.wall(2, Checks.OPEN);
            x.wall(4, Checks.OPEN);
            x.say(3, 1, NONE);
            due("not to 0, 2 and 4", x.said(1, 4), 2 + 8 + 32);
            x.wall(5, Checks.OPEN);
            x.say(0, 1, NONE);
            due("not to 5", x.said(2, 4), 63 - 32);
            x.wall(0, Checks.OPEN);
            x.wall(1, Checks.OPEN);
            x.say(5, 1, NONE);
            due("not to 4 and 0", x.said(3, 4), 63 - 16 - 1);
        });
        Checks.test("13: 5: a mask of the speakers who heard it so far: nobody, one, all", () -> {
            EchoLine x = new EchoLine();
            x.set(0, 0);
            x.say(0, 1, NONE);
            x.say(0, 2, NONE);
            due("the first one is heard at 0", x.said(0, 5), 1);
            due("the last one by nobody", x.said(1, 5), 0);
            x.pass(1);
            due("one step on", x.said(0, 5), 1 + 2 + 32);
            x.pass(1);
            due("two steps on", x.said(0, 5), 63 - 8);
            x.pass(1);
            due("by all", x.said(0, 5), 63);
            x.pass(50);
            due("so far, though it is not heard any more", x.said(0, 5), 63);
        });
    }

    private static void comes() {
        Checks.test("14: NONE if it never does, or there is no such word", () -> {
            EchoLine x = new EchoLine();
            x.wall(3, Checks.HUNG);
            x.say(0, 1, NONE);
            Checks.dueEach("comes", seat -> x.comes(0, seat), 1, 2, 3, NONE, 3, 2);
            for (int number : new int[] {1, 199, 200, HIGH}) {
                Checks.dueEach("no word " + number, seat -> x.comes(number, seat),
                        NONE, NONE, NONE, NONE, NONE, NONE);
            }
            due("of a new object", new EchoLine().comes(0, 5), NONE);
            x.undo();
            due("undone", x.comes(0, 0), NONE);
        });
        Checks.test("14: Returns the beat: the first one, and one behind the last one", () -> {
            EchoLine x = Checks.withoutDelay();
            x.say(5, 1, NONE);
            due("beat 0", x.comes(0, 0), 0);
            for (int pause = 0; pause < 7; pause++) {
                x.pass(50);
            }
            x.pass(48);
            x.set(0, 5);
            x.set(1, 4);
            x.wall(2, Checks.HOLLOW);
            x.say(5, 1, NONE);
            due("19 beats behind 399", x.comes(1, 2), 399 + 19);
        });
        Checks.test("14: IndexOutOfBoundsException if there is no such seat", () -> {
            for (int seat : new int[] {-1, 6, LOW, HIGH}) {
                Checks.refused("comes to " + seat, NO_SEAT, x -> x.comes(0, seat), EchoLine::new, Checks::busy);
            }
        });
        Checks.test("14: IllegalArgumentException if number is below 0", () -> {
            for (int number : new int[] {-1, LOW}) {
                Checks.refused("comes " + number, BAD_ARGUMENT, x -> x.comes(number, 5), EchoLine::new,
                        Checks::busy);
            }
        });
        Checks.test("14: the seat is named ahead of the number", () ->
                Checks.refused("both", NO_SEAT, x -> x.comes(-1, 6), EchoLine::new, Checks::busy));
    }

    private static void heard() {
        Checks.test("15: NONE for silence", () -> {
            EchoLine x = Checks.atBeat(1);
            Checks.dueEach("silence", what -> x.heard(0, 0, what), NONE, NONE, NONE);
        });
        Checks.test("15: NONE if the beat is not over", () -> {
            EchoLine x = Checks.withoutDelay();
            x.say(0, 7, NONE);
            x.say(0, 8, NONE);
            x.pass(1);
            Checks.dueEach("over", what -> x.heard(5, 2, what), 0, 7, 1);
            for (int beat : new int[] {3, 4, 399, 400, 401, HIGH}) {
                Checks.dueEach("not over, " + beat, what -> x.heard(5, beat, what), NONE, NONE, NONE);
            }
            x.undo();
            Checks.dueEach("not over any more", what -> x.heard(5, 2, what), NONE, NONE, NONE);
            due("of a new object", new EchoLine().heard(0, 0, 0), NONE);
        });
        Checks.test("15: beat: 0 or more: the last one", () -> {
            EchoLine x = Checks.atBeat(398);
            x.set(0, 0);
            x.say(0, 7, NONE);
            due("one word", x.heard(0, 398, 0), NONE);
            x.say(0, 8, NONE);
            Checks.dueEach("the beat 399", what -> x.heard(0, 399, what), 0, 7, 0);
            due("the beat 400", x.heard(0, 400, 0), NONE);
        });
        Checks.test("15: 2: 1 if it was marked as repeated, otherwise 0", () -> {
            EchoLine x = Checks.withoutDelay();
            x.say(0, 7, NONE);
            x.say(0, 7, NONE);
            x.pass(1);
            x.say(0, 7, NONE);
            Checks.dueEach("number", beat -> x.heard(0, beat, 0), NONE, 0, 0, 1);
            Checks.dueEach("marked", beat -> x.heard(0, beat, 2), NONE, 0, 1, 0);
        });
    }

    private static void heardRefused() {
        Checks.test("15: IndexOutOfBoundsException if there is no such seat", () -> {
            for (int seat : new int[] {-1, 6, LOW, HIGH}) {
                Checks.refused("heard by " + seat, NO_SEAT, x -> x.heard(seat, 0, 0), EchoLine::new, Checks::busy);
            }
        });
        Checks.test("15: IllegalArgumentException if beat is below 0", () -> {
            for (int beat : new int[] {-1, LOW}) {
                Checks.refused("heard in " + beat, BAD_ARGUMENT, x -> x.heard(0, beat, 0), EchoLine::new,
                        Checks::busy);
            }
        });
        Checks.test("15: IllegalArgumentException if what is not 0 to 2", () -> {
            for (int what : new int[] {-1, 3, LOW, HIGH}) {
                Checks.refused("heard, " + what, BAD_ARGUMENT, x -> x.heard(0, 0, what), EchoLine::new,
                        Checks::busy);
                Checks.refused("not over, " + what, BAD_ARGUMENT, x -> x.heard(0, HIGH, what), Checks::busy);
            }
        });
        Checks.test("15: the seat is named ahead of beat and what", () -> {
            Checks.refused("bad beat", NO_SEAT, x -> x.heard(6, -1, 0), EchoLine::new, Checks::busy);
            Checks.refused("bad what", NO_SEAT, x -> x.heard(-1, 0, 3), EchoLine::new, Checks::busy);
        });
    }

    private static void speaker() {
        Checks.test("16: seat: 0 to 5", () -> {
            EchoLine x = new EchoLine();
            x.say(0, 1, NONE);
            x.say(5, 1, NONE);
            x.say(5, 1, NONE);
            Checks.dueEach("words of", seat -> x.speaker(seat, 6), 1, 0, 0, 0, 0, 2);
        });
        Checks.test("16: IndexOutOfBoundsException if there is no such seat", () -> {
            for (int seat : new int[] {-1, 6, LOW, HIGH}) {
                Checks.refused("speaker " + seat, NO_SEAT, x -> x.speaker(seat, 0), EchoLine::new, Checks::busy);
            }
        });
        Checks.test("16: IllegalArgumentException if what is not 0 to 7", () -> {
            for (int what : new int[] {-1, 8, LOW, HIGH}) {
                Checks.refused("speaker, " + what, BAD_ARGUMENT, x -> x.speaker(5, what), EchoLine::new,
                        Checks::busy);
            }
        });
        Checks.test("16: the seat is named ahead of what", () ->
                Checks.refused("both", NO_SEAT, x -> x.speaker(6, 8), EchoLine::new, Checks::busy));
    }

    private static void speakerNumbers() {
        Checks.test("16: numbers of a speaker who heard nothing", () -> {
            EchoLine x = Checks.atBeat(400);
            Checks.dueEach("number", what -> x.speaker(5, what), 0, 0, 0, 0, 400, 0, 0, 0);
        });
        Checks.test("16: numbers of a speaker who heard all but the last word", () -> {
            EchoLine x = Checks.withoutDelay();
            for (int number = 0; number < 200; number++) {
                x.say(0, 1, NONE);
            }
            Checks.dueEach("number of 0", what -> x.speaker(0, what), 0, 199, 199, 0, 1, 0, 200, 199);
            Checks.dueEach("number of 5", what -> x.speaker(5, what), 0, 199, 199, 0, 1, 0, 0, 199);
        });
        Checks.test("16: 2 and 7: words that were heard, each once", () -> {
            EchoLine x = Checks.withoutDelay();
            x.say(0, 1, NONE);
            x.say(0, 1, NONE);
            x.set(2, 1);
            x.pass(1);
            x.set(2, 50);
            x.pass(9);
            Checks.dueEach("number", what -> x.speaker(0, what), 0, 10, 1, 8, 2);
            due("going through the words", x.speaker(0, 7), 1);
        });
        Checks.test("16: the first beat that is over", () -> {
            EchoLine x = Checks.atBeat(1);
            due("silent beats", x.speaker(0, 4), 1);
        });
    }

    private static void message() {
        Checks.test("17: NONE if this one said no word with this mark", () -> {
            EchoLine x = Checks.withoutDelay();
            x.say(2, 1, 0);
            x.say(2, 2, 9);
            x.say(2, 3, NONE);
            for (int mark = 0; mark <= 9; mark++) {
                boolean some = mark == 0 || mark == 9;
                due("mark " + mark, x.message(2, mark, 5), some ? 3 : NONE);
                due("of another one, mark " + mark, x.message(3, mark, 5), NONE);
                due("of a new object", new EchoLine().message(0, mark, 5), NONE);
            }
        });
        Checks.test("17: from and seat: 0 to 5", () -> {
            EchoLine x = new EchoLine();
            x.say(0, 1, 1);
            x.say(5, 2, 1);
            x.pass(1);
            Checks.dueEach("of 0", seat -> x.message(0, 1, seat), 0, 0, 0, 0, 0, 3);
            x.pass(1);
            Checks.dueEach("of 0", seat -> x.message(0, 1, seat), 3, 0, 0, 0, 3, 3);
            x.say(0, 3, NONE);
            Checks.dueEach("of 5", seat -> x.message(5, 1, seat), 0, 0, 0, 0, 0, 0);
            x.pass(1);
            Checks.dueEach("of 5", seat -> x.message(5, 1, seat), 3, 0, 0, 0, 0, 0);
            x.pass(1);
            Checks.dueEach("of 5", seat -> x.message(5, 1, seat), 3, 3, 0, 0, 0, 3);
        });
        Checks.test("17: 0 not at all, 1 broken, 2 out of order, 3 whole", () -> {
            EchoLine x = Checks.withoutDelay();
            x.say(0, 1, 1);
            due("one word alone", x.message(0, 1, 4), 0);
            x.say(0, 2, 1);
            due("one of two", x.message(0, 1, 4), 1);
            x.say(1, 3, NONE);
            due("two of two", x.message(0, 1, 4), 3);
            x.set(0, 5);
            x.say(0, 4, 1);
            due("two of three", x.message(0, 1, 4), 1);
            x.set(0, 0);
            x.say(0, 5, 1);
            x.say(1, 6, NONE);
            due("three of four", x.message(0, 1, 4), 1);
            x.pass(2);
            due("the slow one has not come", x.comes(3, 4), x.count(0));
            x.pass(1);
            x.say(1, 7, NONE);
            due("four of four, the third one last", x.message(0, 1, 4), 2);
        });
        Checks.test("17: a message of two words that come in the same beat", () -> {
            EchoLine x = Checks.withoutDelay();
            x.set(0, 1);
            x.say(0, 1, 1);
            x.set(0, 0);
            x.say(0, 2, 1);
            due("one is heard", x.message(0, 1, 4), 1);
            x.say(1, 3, NONE);
            due("the other one behind it", x.message(0, 1, 4), 3);
        });
        Checks.test("17: the most words: 200 in one message", () -> {
            EchoLine x = Checks.withoutDelay();
            for (int number = 0; number < 199; number++) {
                x.say(4, 1, 9);
            }
            due("the last one is not heard", x.message(4, 9, 0), 1);
            x.say(3, 1, NONE);
            due("all", x.message(4, 9, 0), 3);
        });
    }

    private static void messageRefused() {
        Checks.test("17: IndexOutOfBoundsException if there is no such seat (from or seat)", () -> {
            for (int seat : new int[] {-1, 6, LOW, HIGH}) {
                Checks.refused("from " + seat, NO_SEAT, x -> x.message(seat, 3, 0), EchoLine::new, Checks::busy);
                Checks.refused("seat " + seat, NO_SEAT, x -> x.message(0, 3, seat), EchoLine::new, Checks::busy);
                Checks.refused("both " + seat, NO_SEAT, x -> x.message(seat, 3, seat), EchoLine::new,
                        Checks::busy);
            }
        });
        Checks.test("17: IllegalArgumentException if mark is out of range", () -> {
            for (int mark : new int[] {NONE, 10, LOW, HIGH}) {
                Checks.refused("mark " + mark, BAD_ARGUMENT, x -> x.message(0, mark, 5), EchoLine::new,
                        Checks::busy);
            }
        });
        Checks.test("17: the seats are named ahead of the mark", () -> {
            Checks.refused("from", NO_SEAT, x -> x.message(6, 10, 0), EchoLine::new, Checks::busy);
            Checks.refused("seat", NO_SEAT, x -> x.message(0, NONE, -1), EchoLine::new, Checks::busy);
        });
    }

    private static void count() {
        Checks.test("18: IllegalArgumentException if what is not 0 to 9", () -> {
            for (int what : new int[] {-1, 10, LOW, HIGH}) {
                Checks.refused("count " + what, BAD_ARGUMENT, x -> x.count(what), EchoLine::new, Checks::busy);
            }
        });
        Checks.test("18: the numbers of a new object", () -> {
            EchoLine x = new EchoLine();
            Checks.dueEach("count", what -> x.count(what), 0, 0, 0, 0, 0, 0, 1, 1, 8, 0);
        });
        Checks.test("18: 0, 1 and 9: the largest numbers", () -> {
            EchoLine x = Checks.exhausted();
            due("beat", x.count(0), 400);
            due("words", x.count(1), 200);
            due("saved states", x.count(9), 6);
        });
        Checks.test("18: 6 to 8: the settings 0 to 2, each its own", () -> {
            EchoLine x = new EchoLine();
            x.set(0, 5);
            x.set(1, 4);
            x.set(2, 50);
            Checks.dueEach("setting", setting -> x.count(6 + setting), 5, 4, 50);
        });
    }

    private static void countNumbers() {
        Checks.test("18: 2: words that all speakers heard so far: not by five of six", () -> {
            EchoLine x = Checks.withoutDelay();
            x.wall(5, Checks.HOLLOW);
            x.say(0, 1, NONE);
            x.say(0, 2, NONE);
            x.pass(1);
            due("heard by", x.said(0, 5), 31);
            due("five", x.count(2), 0);
            x.pass(1);
            due("heard by", x.said(0, 5), 63);
            due("six", x.count(2), 1);
            x.say(0, 3, NONE);
            x.pass(2);
            due("one more", x.count(2), 2);
        });
        Checks.test("18: 2: words that all speakers heard so far: not by the seat 0 alone", () -> {
            EchoLine x = Checks.withoutDelay();
            x.wall(0, Checks.HOLLOW);
            x.say(1, 1, NONE);
            x.say(1, 2, NONE);
            due("five", x.count(2), 0);
            x.pass(2);
            due("six", x.count(2), 1);
        });
        Checks.test("18: 3: words that nobody heard so far: not if one did", () -> {
            EchoLine x = new EchoLine();
            x.set(0, 0);
            x.set(1, 4);
            due("no words", x.count(3), 0);
            x.say(5, 1, NONE);
            due("one word", x.count(3), 1);
            x.say(5, 2, NONE);
            due("heard by", x.said(0, 5), 32);
            due("the last one", x.count(3), 1);
            x.say(4, 3, NONE);
            due("heard by", x.said(1, 5), 0);
            due("two of three", x.count(3), 2);
        });
    }

    private static void countMessages() {
        Checks.test("18: 4: messages, each of a speaker and a mark: the most", () -> {
            EchoLine x = new EchoLine();
            for (int message = 0; message < 60; message++) {
                x.say(message / 10, 1, message % 10);
                due("messages", x.count(4), message + 1);
            }
            x.say(0, 1, 0);
            x.say(5, 1, 9);
            x.say(5, 1, NONE);
            due("no more", x.count(4), 60);
        });
        Checks.test("18: 5: messages that all speakers heard whole: not by five of six", () -> {
            EchoLine x = Checks.withoutDelay();
            x.wall(0, Checks.HOLLOW);
            x.say(0, 1, 3);
            due("by none", x.count(5), 0);
            x.say(0, 2, NONE);
            x.pass(1);
            Checks.dueEach("message", seat -> x.message(0, 3, seat), 0, 3, 3, 3, 3, 3);
            due("by five", x.count(5), 0);
            x.pass(1);
            due("by six", x.count(5), 1);
        });
        Checks.test("18: 5: messages that all speakers heard whole: not broken, not out of order", () -> {
            EchoLine x = Checks.withoutDelay();
            x.set(0, 5);
            x.say(1, 1, 6);
            x.set(0, 0);
            x.say(1, 2, 6);
            x.say(1, 3, NONE);
            due("broken", x.count(5) * 10 + x.message(1, 6, 0), 1);
            x.pass(2);
            x.say(1, 4, NONE);
            due("out of order", x.count(5) * 10 + x.message(1, 6, 0), 2);
            x.say(1, 5, 0);
            x.say(1, 6, NONE);
            due("another one", x.count(5) * 10 + x.message(1, 0, 0), 13);
        });
        Checks.test("18: 5: of the lowest and the highest speaker and mark", () -> {
            EchoLine x = Checks.withoutDelay();
            x.say(0, 1, 0);
            x.say(5, 2, 9);
            due("the lowest", x.count(5), 1);
            x.say(5, 3, NONE);
            due("and the highest", x.count(5), 2);
        });
    }

    private static void whyNot() {
        Checks.test("19: NONE if there is no such word", () -> {
            EchoLine x = Checks.behindWords(2);
            for (int number : new int[] {2, 199, 200, HIGH}) {
                due("number " + number, x.whyNot(number, 0), NONE);
            }
            due("of a new object", new EchoLine().whyNot(0, 5), NONE);
            x.undo();
            due("undone", x.whyNot(1, 0), NONE);
        });
        Checks.test("19: 0 if it was heard: also if it is not any more", () -> {
            EchoLine x = Checks.withoutDelay();
            x.say(0, 1, NONE);
            x.say(0, 2, NONE);
            due("heard", x.whyNot(0, 5), 0);
            x.pass(50);
            due("long ago", x.whyNot(0, 5), 0);
        });
        Checks.test("19: 1 if it never comes there", () -> {
            EchoLine x = new EchoLine();
            x.wall(3, Checks.HUNG);
            x.wall(1, Checks.OPEN);
            x.say(0, 1, NONE);
            x.wall(3, Checks.BARE);
            Checks.dueEach("at once", seat -> x.whyNot(0, seat), 2, 1, 2, 1, 2, 2);
            x.pass(50);
            Checks.dueEach("for good", seat -> x.whyNot(0, seat), 3, 1, 3, 1, 3, 3);
        });
        Checks.test("19: 2 if it has not come yet, or came in no beat that is over", () -> {
            EchoLine x = new EchoLine();
            x.say(0, 1, NONE);
            x.say(0, 2, NONE);
            due("comes a beat from now", x.comes(0, 2), x.count(0) + 1);
            due("has not come yet", x.whyNot(0, 2), 2);
            due("comes in the beat of now", x.comes(0, 1), x.count(0));
            due("came in no beat that is over", x.whyNot(0, 1), 2);
            x.pass(1);
            due("alone in the beat that is over", x.whyNot(0, 1), 3);
        });
        Checks.test("19: 3 if it came, and was not the second-last voice in any beat so far", () -> {
            EchoLine x = Checks.withoutDelay();
            x.say(0, 1, NONE);
            due("the last voice", x.whyNot(0, 4), 3);
            EchoLine y = new EchoLine();
            y.set(1, 0);
            for (int number = 0; number < 3; number++) {
                y.set(0, 2 - number);
                y.say(0, 1, NONE);
            }
            // All three come in the beat 2.
            Checks.dueEach("third-last, second-last, last", number -> y.whyNot(number, 0), 3, 0, 3);
        });
        Checks.test("19: told at beat 400, of a word that comes behind it", () -> {
            EchoLine x = Checks.atBeat(399);
            x.say(0, 1, NONE);
            due("comes in 400", x.comes(0, 0), 400);
            due("no beat that is over", x.whyNot(0, 0), 2);
        });
    }

    private static void whyNotRefused() {
        Checks.test("19: IndexOutOfBoundsException if there is no such seat", () -> {
            for (int seat : new int[] {-1, 6, LOW, HIGH}) {
                Checks.refused("whyNot of " + seat, NO_SEAT, x -> x.whyNot(0, seat), EchoLine::new, Checks::busy);
            }
        });
        Checks.test("19: IllegalArgumentException if number is below 0", () -> {
            for (int number : new int[] {-1, LOW}) {
                Checks.refused("whyNot " + number, BAD_ARGUMENT, x -> x.whyNot(number, 5), EchoLine::new,
                        Checks::busy);
            }
        });
        Checks.test("19: the seat is named ahead of the number", () ->
                Checks.refused("both", NO_SEAT, x -> x.whyNot(-1, 6), EchoLine::new, Checks::busy));
    }

    private static void due(String call, long got, long want) {
        Checks.due(call, got, want);
    }
}

/** The boundary cases of the promises 10 to 12, and of undo and the snapshot: a test by sentence. */
public final class BoundaryUndoTest {
    private static final int NONE = Checks.NONE;
    private static final Class<?> BAD_STATE = Checks.BAD_STATE;

    public static void main(String[] args) {
        undoNothing();
        undoMany();
        undoEach();
        savesNothing();
        stateAndNoState();
        keep();
        restoreNothing();
        restore();
        behindGoingBack();
        Checks.finish("BoundaryUndoTest");
    }

    private static void undoNothing() {
        Checks.test("10: IllegalStateException if there is none: a new object", () ->
                Checks.refused("undo", BAD_STATE, x -> x.undo(), EchoLine::new));
        Checks.test("10: IllegalStateException if there is none: all were undone", () ->
                Checks.refused("undo", BAD_STATE, x -> x.undo(), () -> {
                    EchoLine x = Checks.busy();
                    for (int step = 0; step < 6; step++) {
                        x.undo();
                    }
                    return x;
                }));
        Checks.test("10: IllegalStateException if there is none: only calls that save none", () ->
                Checks.refused("undo", BAD_STATE, x -> x.undo(), () -> {
                    EchoLine x = Checks.typed("0:1");
                    x.keep();
                    return x;
                }));
    }

    private static void undoMany() {
        Checks.test("10: Returns how many saved states are left", () -> {
            EchoLine x = new EchoLine();
            x.pass(1);
            due("of one", x.undo(), 0);
            x.pass(1);
            x.pass(1);
            due("of two", x.undo(), 1);
            due("as counted", x.count(9), 1);
            due("of one again", x.undo(), 0);
        });
        Checks.test("10: Restores the latest saved state, and drops it", () -> {
            EchoLine x = new EchoLine();
            x.say(0, 1, 0);
            x.say(1, 2, 1);
            x.undo();
            due("the latest", x.count(1), 1);
            x.undo();
            due("the one before", x.count(1), 0);
        });
        Checks.test("10: At most 6 states are saved: the sixth one", () -> {
            EchoLine x = passedOneToN(6);
            due("saved", x.count(9), 6);
            Checks.dueEach("left", step -> x.undo(), 5, 4, 3, 2, 1, 0);
            due("the very first", x.count(0), 0);
        });
        Checks.test("10: the oldest one is dropped first: the seventh one", () -> {
            EchoLine x = passedOneToN(7);
            due("saved", x.count(9), 6);
            Checks.dueEach("left", step -> x.undo(), 5, 4, 3, 2, 1, 0);
            due("behind the first pause", x.count(0), 1);
            Checks.refused("undo", BAD_STATE, y -> y.undo(), () -> {
                EchoLine y = passedOneToN(7);
                Checks.dueEach("left", step -> y.undo(), 5, 4, 3, 2, 1, 0);
                return y;
            });
        });
        Checks.test("10: the oldest one is dropped first: round and round", () -> {
            EchoLine x = passedOneToN(20);
            Checks.dueEach("left", step -> x.undo(), 5, 4, 3);
            due("behind 17 pauses", x.count(0), 17 * 18 / 2);
            for (int beats = 1; beats <= 4; beats++) {
                x.pass(beats);
            }
            int[] sums = {153 + 6, 153 + 3, 153 + 1, 153, 136, 120};
            due("saved", x.count(9), 6);
            for (int step = 0; step < 6; step++) {
                due("left", x.undo(), 5 - step);
                due("beat", x.count(0), sums[step]);
            }
        });
    }

    /** Pauses of 1, 2, and so on, so that each state has a beat of its own. */
    private static EchoLine passedOneToN(int pauses) {
        EchoLine x = new EchoLine();
        for (int beats = 1; beats <= pauses; beats++) {
            x.pass(beats);
        }
        return x;
    }

    private static void undoEach() {
        Checks.test("10: Each method that is marked \"undoable\" saves the state from before it", () -> {
            undone("say", x -> x.say(5, 5, 5));
            undone("pass", x -> x.pass(50));
            undone("wall", x -> x.wall(4, Checks.OPEN));
            undone("set", x -> x.set(2, 50));
            undone("restore", x -> x.restore());
            EchoLine x = words();
            Checks.type(x, "4:4#4;.4");
            x.talk();
            due("talk saves", x.count(9), 6);
            due("talk is undone", x.undo(), 5);
            due("talk, words", x.count(1), 4);
        });
        Checks.test("10: (also if it changes nothing)", () -> {
            undone("the same wall", x -> x.wall(4, Checks.BARE));
            undone("the same setting", x -> x.set(0, 1));
            undone("the snapshot of now", x -> {
                x.keep();
                return x.restore();
            });
        });
        Checks.test("10: Each method that does not throw: a refused call saves none", () -> {
            EchoLine x = words();
            Checks.Call[] calls = {y -> y.say(6, 1, 1), y -> y.say(0, 0, 1), y -> y.pass(0), y -> y.wall(6, 0),
                y -> y.wall(0, 4), y -> y.set(3, 1), y -> y.set(2, 0), y -> y.talk()};
            for (Checks.Call call : calls) {
                try {
                    call.on(x);
                    due("it was not refused", 1, 0);
                } catch (IndexOutOfBoundsException | IllegalArgumentException e) {
                    due("saved states", x.count(9), 5);
                }
            }
        });
    }

    /** Four words, a snapshot behind the third one, and five saved states. */
    private static EchoLine words() {
        EchoLine x = new EchoLine();
        x.say(0, 11, 3);
        x.say(2, 22, NONE);
        x.say(0, 33, 3);
        x.keep();
        x.say(3, 44, 9);
        x.pass(2);
        return x;
    }

    private static void undone(String name, Checks.Call call) {
        EchoLine x = words();
        long before = x.digest();
        call.on(x);
        due(name + " saves one", x.count(9), 6);
        due(name + " is undone", x.undo(), 5);
        due(name + ", undone", x.digest(), before);
    }

    private static void savesNothing() {
        Checks.test("10: undo, keep, append and clearBuffer save no state", () -> {
            EchoLine x = words();
            x.keep();
            due("keep", x.count(9), 5);
            x.append('0');
            due("append", x.count(9), 5);
            x.clearBuffer();
            due("clearBuffer", x.count(9), 5);
            x.undo();
            due("undo", x.count(9), 4);
        });
        Checks.test("10: looks save no state, and change nothing", () -> {
            EchoLine x = words();
            long before = x.digest();
            x.said(0, 5);
            x.comes(0, 0);
            x.heard(0, 0, 0);
            x.speaker(0, 7);
            x.message(0, 3, 0);
            x.count(9);
            x.whyNot(0, 0);
            x.ifSilent(0);
            x.heardIn(0, 0);
            x.bestSeat();
            x.heardShare();
            x.firstError();
            due("all as before", x.digest(), before);
            Checks.same("looked at, and not", x, words());
        });
    }

    private static void stateAndNoState() {
        Checks.test("10: the state: all, but the buffer", () -> {
            EchoLine x = Checks.typed("0:1");
            x.pass(1);
            x.clearBuffer();
            Checks.type(x, ".");
            x.undo();
            due("what was typed then is there", x.clearBuffer(), 1);
        });
        Checks.test("10: the state: all, but the snapshot", () -> {
            EchoLine x = new EchoLine();
            x.pass(3);
            x.keep();
            x.undo();
            due("the snapshot stays", x.restore(), 3);
            x.pass(4);
            x.keep();
            x.undo();
            x.undo();
            due("the latest one stays", x.restore(), 7);
        });
        Checks.test("10: the state: walls, settings, words, and what was heard", () -> {
            EchoLine x = Checks.withoutDelay();
            x.say(0, 1, 2);
            x.say(0, 2, 2);
            long before = x.digest();
            x.wall(0, Checks.HUNG);
            x.set(2, 1);
            x.say(0, 3, 2);
            x.pass(10);
            Checks.dueEach("heard", beat -> x.heard(0, beat, 0), NONE, 0, 1, NONE);
            due("kind and setting 2", x.speaker(0, 0) * 10 + x.count(8), 11);
            due("left", x.undo() + x.undo() + x.undo() + x.undo(), 5 + 4 + 3 + 2);
            due("kind and setting 2", x.speaker(0, 0) * 10 + x.count(8), 8);
            due("message", x.message(0, 2, 0), 1);
            Checks.dueEach("heard", beat -> x.heard(0, beat, 0), NONE, 0, NONE, NONE);
            x.wall(1, Checks.BARE);
            x.wall(1, Checks.BARE);
            due("all else, with two more saved states", x.digest(), before);
        });
    }

    private static void keep() {
        Checks.test("11: Returns the beat: the first one, and the last one", () -> {
            due("beat 0", new EchoLine().keep(), 0);
            due("beat 400", Checks.atBeat(400).keep(), 400);
            due("beat 200", Checks.behindWords(200).keep(), 200);
        });
        Checks.test("11: in place of the one before", () -> {
            EchoLine x = new EchoLine();
            x.keep();
            x.pass(5);
            x.keep();
            x.pass(5);
            due("the latest one", x.restore(), 5);
            EchoLine y = Checks.behindWords(9);
            y.keep();
            for (int step = 0; step < 6; step++) {
                y.undo();
            }
            y.keep();
            y.pass(30);
            due("a smaller one in place of a larger one", y.restore(), 3);
            due("its words", y.count(1), 3);
            due("behind its words", y.said(3, 0), NONE);
        });
        Checks.test("11: Takes a snapshot, and changes nothing else", () -> {
            EchoLine x = words();
            long before = x.digest();
            x.keep();
            due("all as before", x.digest(), before);
        });
        Checks.test("11: a snapshot of the same beat, as often as one likes", () -> {
            EchoLine x = new EchoLine();
            Checks.dueEach("keep", call -> x.keep(), 0, 0, 0);
            due("no saved state", x.count(9), 0);
        });
    }

    private static void restoreNothing() {
        Checks.test("12: IllegalStateException if there is no snapshot", () ->
                Checks.refused("restore", BAD_STATE, x -> x.restore(), EchoLine::new, () -> Checks.atBeat(400),
                        () -> Checks.behindWords(10), Checks::withFullBuffer));
        Checks.test("12: a snapshot of a new object is one", () -> {
            EchoLine x = new EchoLine();
            x.keep();
            due("beat", x.restore(), 0);
            due("saved", x.count(9), 1);
        });
    }

    private static void restore() {
        Checks.test("12: Restores the state of the snapshot, which stays", () -> {
            EchoLine x = words();
            due("once", x.restore(), 3);
            x.pass(9);
            x.wall(2, Checks.HOLLOW);
            due("twice", x.restore(), 3);
            due("the wall", x.speaker(2, 0), Checks.BARE);
            due("once more, at once", x.restore(), 3);
        });
        Checks.test("12: Returns the beat then: the last one", () -> {
            EchoLine x = Checks.exhausted();
            x.keep();
            x.undo();
            due("beat", x.restore(), 400);
            due("words", x.count(1), 200);
        });
        Checks.test("12: Undoable, and at most 6", () -> {
            EchoLine x = words();
            x.restore();
            due("one more", x.count(9), 6);
            x.restore();
            due("not more than 6", x.count(9), 6);
            due("undone", x.undo(), 5);
            x.undo();
            due("the state before", x.count(0), 6);
            due("its words", x.count(1), 4);
        });
        Checks.test("12: the state: all, but the buffer and the saved states", () -> {
            EchoLine x = new EchoLine();
            x.pass(1);
            x.keep();
            x.pass(2);
            Checks.type(x, "0:1");
            due("beat", x.restore(), 1);
            due("saved states go on", x.count(9), 3);
            due("the buffer stays", x.clearBuffer(), 3);
            x.undo();
            due("the beat before", x.count(0), 3);
        });
        Checks.test("12: the snapshot is not touched by what happens behind it", () -> {
            EchoLine x = words();
            x.restore();
            long kept = x.digest();
            x.say(1, 99, 1);
            x.say(1, 98, 1);
            x.wall(0, Checks.OPEN);
            x.set(2, 50);
            x.set(1, 4);
            x.restore();
            due("saved states", x.count(9), 6);
            due("all else as it was kept", x.digest(), kept);
        });
    }

    private static void behindGoingBack() {
        Checks.test("12: going back leaves nothing behind: other words in the same places", () -> {
            EchoLine x = Checks.withoutDelay();
            x.keep();
            x.say(0, 1, 1);
            x.say(0, 2, 1);
            x.say(0, 3, 1);
            x.pass(20);
            x.restore();
            due("no word", x.said(0, 5), NONE);
            due("no beat is over", x.heard(0, 1, 0), NONE);
            x.wall(3, Checks.OPEN);
            x.say(2, 9, NONE);
            due("not heard yet", x.said(0, 5), 0);
            due("not to the open wall", x.said(0, 4), 63 - 8);
            due("no message of before", x.message(0, 1, 0), NONE);
            due("no message at all", x.count(4), 0);
            x.say(2, 8, NONE);
            due("heard anew", x.said(0, 5), 63 - 8);
            due("once", x.speaker(0, 2) * 10 + x.speaker(0, 7), 11);
        });
        Checks.test("12: going back brings back the words in whose places others were said", () -> {
            EchoLine x = words();
            x.keep();
            while (x.count(9) > 0) {
                x.undo();
            }
            otherWords(x);
            x.restore();
            wordsAreBack(x);
        });
        Checks.test("10: going back brings back the words in whose places others were said", () -> {
            EchoLine x = words();
            while (x.count(9) > 0) {
                x.undo();
            }
            x.keep();
            x.say(0, 11, 3);
            x.say(2, 22, NONE);
            x.say(0, 33, 3);
            x.say(3, 44, 9);
            x.pass(2);
            x.restore();
            otherWords(x);
            Checks.dueEach("left", step -> x.undo(), 5, 4, 3, 2, 1, 0);
            wordsAreBack(x);
        });
        Checks.test("10: going back leaves nothing behind: the same calls answer the same", () -> {
            EchoLine x = words();
            x.undo();
            x.undo();
            x.say(3, 44, 9);
            x.pass(2);
            Checks.same("undone and done again, and done once", x, words());
        });
    }

    /** Three words, in other beats, in the places of the first three of words(), and another setting 2. */
    private static void otherWords(EchoLine x) {
        x.set(2, 2);
        x.pass(3);
        x.say(5, 61, NONE);
        x.say(4, 62, 8);
        x.say(5, 63, 8);
    }

    private static void wordsAreBack(EchoLine x) {
        int[][] said = {{0, 11, 3, 0, 63}, {2, 22, NONE, 1, 63}, {0, 33, 3, 2, 63}, {3, 44, 9, 3, 63}};
        int[][] comes = {{1, 2, 3, 4, 3, 2}, {4, 3, 2, 3, 4, 5}, {3, 4, 5, 6, 5, 4}, {7, 6, 5, 4, 5, 6}};
        for (int number = 0; number < 4; number++) {
            int its = number;
            Checks.dueEach("word " + number, what -> x.said(its, what), said[number]);
            Checks.dueEach("comes, word " + number, seat -> x.comes(its, seat), comes[number]);
        }
        Checks.dueEach("heard at 0", beat -> x.heard(0, beat, 0), NONE, NONE, NONE, 0, 2, 2);
        Checks.dueEach("heard at 3", beat -> x.heard(3, beat, 0), NONE, NONE, NONE, NONE, 0, 0);
        due("beat", x.count(0), 6);
        due("setting 2", x.count(8), 8);
    }

    private static void due(String call, long got, long want) {
        Checks.due(call, got, want);
    }
}

/** The boundary cases of the promises 1 to 5, and of what they do to a chamber: a test by sentence. */
public final class BoundarySpeakingTest {
    private static final int NONE = Checks.NONE;
    private static final int LOW = Checks.LOW;
    private static final int HIGH = Checks.HIGH;
    private static final Class<?> NO_SEAT = Checks.NO_SEAT;
    private static final Class<?> BAD_ARGUMENT = Checks.BAD_ARGUMENT;
    private static final Class<?> BAD_STATE = Checks.BAD_STATE;

    public static void main(String[] args) {
        newObject();
        sayInRange();
        sayRefused();
        sayAtTheEnd();
        passInRange();
        passAtTheEnd();
        wall();
        set();
        Checks.finish("BoundarySpeakingTest");
    }

    private static void newObject() {
        Checks.test("1: Creates a chamber in which nothing was said", () -> {
            EchoLine x = new EchoLine();
            Checks.dueEach("count", what -> x.count(what), 0, 0, 0, 0, 0, 0, 1, 1, 8, 0);
            for (int seat = 0; seat < 6; seat++) {
                int place = seat;
                Checks.dueEach("speaker " + seat, what -> x.speaker(place, what), 0, 0, 0, 0, 0, 0, 0, 0);
                due("heard", x.heard(seat, 0, 0), NONE);
                due("ifSilent", x.ifSilent(seat), NONE);
                due("comes", x.comes(0, seat), NONE);
                due("whyNot", x.whyNot(0, seat), NONE);
                due("heardIn", x.heardIn(0, seat), NONE);
                due("message", x.message(seat, 0, seat), NONE);
            }
            due("said", x.said(0, 0), NONE);
            due("bestSeat", x.bestSeat(), 0);
            due("heardShare", Double.doubleToLongBits(x.heardShare()), 0);
        });
        Checks.test("1: without a snapshot", () ->
                Checks.refused("restore", BAD_STATE, x -> x.restore(), EchoLine::new));
        Checks.test("1: with an empty buffer", () -> {
            due("firstError", new EchoLine().firstError(), 0);
            due("clearBuffer", new EchoLine().clearBuffer(), 0);
            Checks.refused("talk", BAD_ARGUMENT, x -> x.talk(), EchoLine::new);
        });
        Checks.test("1: nothing to undo", () ->
                Checks.refused("undo", BAD_STATE, x -> x.undo(), EchoLine::new));
        Checks.test("1: one chamber has nothing to do with another one", () -> {
            EchoLine used = Checks.exhausted();
            used.keep();
            Checks.type(used, "0:1");
            Checks.same("a new chamber and one made before", new EchoLine(), Checks.atBeat(0));
        });
    }

    private static void sayInRange() {
        Checks.test("2: seat: 0 to 5", () -> {
            EchoLine x = new EchoLine();
            for (int seat = 0; seat <= 5; seat++) {
                due("number", x.say(seat, 1, NONE), seat);
                due("seat", x.said(seat, 0), seat);
            }
        });
        Checks.test("2: word: 1 to 99", () -> {
            EchoLine x = new EchoLine();
            x.say(0, 1, NONE);
            x.say(0, 99, NONE);
            due("lowest", x.said(0, 1), 1);
            due("highest", x.said(1, 1), 99);
        });
        Checks.test("2: mark: 0 to 9, or NONE for none", () -> {
            EchoLine x = new EchoLine();
            x.say(0, 1, 0);
            x.say(0, 1, 9);
            x.say(0, 1, NONE);
            Checks.dueEach("mark", number -> x.said(number, 2), 0, 9, NONE);
        });
        Checks.test("2: Returns the number of the word among all that were said", () -> {
            EchoLine x = new EchoLine();
            due("first", x.say(3, 7, NONE), 0);
            due("of another speaker", x.say(4, 7, NONE), 1);
            x.pass(50);
            due("behind a pause", x.say(3, 7, NONE), 2);
            x.undo();
            x.undo();
            due("behind undo", x.say(5, 7, NONE), 2);
        });
        Checks.test("2: Undoable", () -> undoable("say", x -> x.say(4, 9, 9)));
    }

    private static void sayRefused() {
        Checks.test("2: IndexOutOfBoundsException if there is no such seat", () -> {
            for (int seat : new int[] {-1, 6, LOW, HIGH}) {
                Checks.refused("say of " + seat, NO_SEAT, x -> x.say(seat, 1, 0), EchoLine::new, Checks::busy);
            }
        });
        Checks.test("2: IllegalArgumentException if word is out of range", () -> {
            for (int word : new int[] {0, 100, -1, LOW, HIGH}) {
                Checks.refused("say " + word, BAD_ARGUMENT, x -> x.say(0, word, 0), EchoLine::new, Checks::busy);
            }
        });
        Checks.test("2: IllegalArgumentException if mark is out of range", () -> {
            for (int mark : new int[] {-2, 10, LOW, HIGH}) {
                Checks.refused("say with " + mark, BAD_ARGUMENT, x -> x.say(5, 99, mark), EchoLine::new,
                        Checks::busy);
            }
        });
        Checks.test("2: the seat is named ahead of word and mark, and of 200 words and beat 400", () -> {
            Checks.refused("bad word", NO_SEAT, x -> x.say(6, 0, 0), EchoLine::new, Checks::exhausted);
            Checks.refused("bad mark", NO_SEAT, x -> x.say(-1, 1, 10), EchoLine::new, Checks::exhausted);
            Checks.refused("bad seat alone", NO_SEAT, x -> x.say(6, 1, 0), () -> Checks.behindWords(200),
                    () -> Checks.atBeat(400));
        });
        Checks.test("2: word and mark are named ahead of 200 words and beat 400", () -> {
            Checks.refused("bad word", BAD_ARGUMENT, x -> x.say(0, 100, 0), () -> Checks.behindWords(200),
                    () -> Checks.atBeat(400), Checks::exhausted);
            Checks.refused("bad mark", BAD_ARGUMENT, x -> x.say(0, 1, -2), () -> Checks.behindWords(200),
                    () -> Checks.atBeat(400), Checks::exhausted);
        });
    }

    private static void sayAtTheEnd() {
        Checks.test("2: IllegalStateException if 200 words were said", () -> {
            EchoLine x = Checks.behindWords(199);
            due("the last one", x.say(0, 1, 0), 199);
            Checks.refused("one more", BAD_STATE, y -> y.say(0, 1, 0), () -> Checks.behindWords(200));
            due("a pause passes all the same", x.pass(50), 250);
            Checks.refused("one more behind a pause", BAD_STATE, y -> y.say(5, 99, NONE), () -> {
                EchoLine y = Checks.behindWords(200);
                y.pass(1);
                return y;
            });
            x.undo();
            x.undo();
            due("undone, and said again", x.say(5, 99, NONE), 199);
        });
        Checks.test("2: IllegalStateException if the beat is 400", () -> {
            EchoLine x = Checks.atBeat(399);
            due("in the last beat", x.say(0, 1, 0), 0);
            due("the beat then", x.count(0), 400);
            Checks.refused("in beat 400", BAD_STATE, y -> y.say(0, 1, 0), () -> Checks.atBeat(400));
            x.undo();
            due("undone, and said again", x.say(5, 99, NONE), 0);
        });
        Checks.test("2: IllegalStateException if 200 words were said, and the beat is 400", () ->
                Checks.refused("no more", BAD_STATE, x -> x.say(0, 1, NONE), Checks::exhausted));
    }

    private static void passInRange() {
        Checks.test("3: beats: 1 to 50", () -> {
            EchoLine x = new EchoLine();
            due("one", x.pass(1), 1);
            due("fifty", x.pass(50), 51);
            for (int beats : new int[] {0, 51, -1, LOW, HIGH}) {
                Checks.refused("pass " + beats, BAD_ARGUMENT, y -> y.pass(beats), EchoLine::new, Checks::busy);
            }
        });
        Checks.test("3: Lets beats pass in which nobody says anything", () -> {
            EchoLine x = Checks.withoutDelay();
            x.pass(50);
            due("no word", x.count(1), 0);
            due("silence", x.speaker(0, 4), 50);
            x.say(0, 1, NONE);
            x.say(0, 2, NONE);
            x.pass(2);
            due("each beat is heard", x.speaker(0, 1), 3);
            due("each beat is heard, up to the last one", x.heard(0, 53, 0), 0);
        });
        Checks.test("3: Undoable", () -> {
            undoable("pass one", x -> x.pass(1));
            undoable("pass fifty", x -> x.pass(50));
        });
    }

    private static void passAtTheEnd() {
        Checks.test("3: IllegalStateException if the beat would be above 400", () -> {
            due("fifty to 400", Checks.atBeat(350).pass(50), 400);
            Checks.refused("fifty to 401", BAD_STATE, x -> x.pass(50), () -> Checks.atBeat(351));
            due("49 to 400", Checks.atBeat(351).pass(49), 400);
            due("one to 400", Checks.atBeat(399).pass(1), 400);
            Checks.refused("two to 401", BAD_STATE, x -> x.pass(2), () -> Checks.atBeat(399));
            Checks.refused("one to 401", BAD_STATE, x -> x.pass(1), () -> Checks.atBeat(400), Checks::exhausted);
        });
        Checks.test("3: beats out of range is named ahead of the beat 400", () -> {
            for (int beats : new int[] {0, 51, -1, LOW, HIGH}) {
                Checks.refused("pass " + beats, BAD_ARGUMENT, x -> x.pass(beats), () -> Checks.atBeat(400),
                        () -> Checks.atBeat(399));
            }
        });
    }

    private static void wall() {
        Checks.test("4: seat: 0 to 5", () -> {
            EchoLine x = new EchoLine();
            x.wall(0, Checks.HOLLOW);
            x.wall(5, Checks.OPEN);
            Checks.dueEach("kind", seat -> x.speaker(seat, 0), 2, 0, 0, 0, 0, 3);
        });
        Checks.test("4: kind: 0 to 3; Returns the previous kind", () -> {
            EchoLine x = new EchoLine();
            due("at first", x.wall(2, 3), 0);
            due("highest", x.wall(2, 0), 3);
            due("lowest", x.wall(2, 0), 0);
            due("of another seat", x.wall(3, 1), 0);
        });
        Checks.test("4: IndexOutOfBoundsException if there is no such seat", () -> {
            for (int seat : new int[] {-1, 6, LOW, HIGH}) {
                Checks.refused("wall of " + seat, NO_SEAT, x -> x.wall(seat, 1), EchoLine::new, Checks::busy);
            }
        });
        Checks.test("4: IllegalArgumentException if kind is out of range", () -> {
            for (int kind : new int[] {-1, 4, LOW, HIGH}) {
                Checks.refused("wall " + kind, BAD_ARGUMENT, x -> x.wall(5, kind), EchoLine::new, Checks::busy);
            }
        });
        Checks.test("4: the seat is named ahead of the kind", () -> {
            Checks.refused("both", NO_SEAT, x -> x.wall(6, 4), EchoLine::new, Checks::busy);
            Checks.refused("both", NO_SEAT, x -> x.wall(-1, -1), EchoLine::new, Checks::busy);
        });
        Checks.test("4: Undoable, also if it changes nothing", () -> {
            undoable("another wall", x -> x.wall(4, 1));
            undoable("the same wall", x -> x.wall(0, 0));
        });
        Checks.test("4: a wall can be changed when no word and no beat is left", () ->
                due("at the end", Checks.exhausted().wall(0, 3), 0));
    }

    private static void set() {
        int[][] bounds = {{0, 5, 1}, {0, 4, 1}, {1, 50, 8}};
        Checks.test("5: setting: 0 to 2; Returns the previous value", () -> {
            for (int setting = 0; setting <= 2; setting++) {
                EchoLine x = new EchoLine();
                due("at first " + setting, x.set(setting, bounds[setting][1]), bounds[setting][2]);
                due("highest of " + setting, x.set(setting, bounds[setting][0]), bounds[setting][1]);
                due("lowest of " + setting, x.set(setting, bounds[setting][0]), bounds[setting][0]);
                due("the same again " + setting, x.count(6 + setting), bounds[setting][0]);
            }
        });
        Checks.test("5: the other settings stay", () -> {
            EchoLine x = new EchoLine();
            x.set(1, 4);
            Checks.dueEach("setting", setting -> x.count(6 + setting), 1, 4, 8);
        });
        Checks.test("5: IndexOutOfBoundsException if there is no such setting", () -> {
            for (int setting : new int[] {-1, 3, LOW, HIGH}) {
                Checks.refused("set " + setting, NO_SEAT, x -> x.set(setting, 1), EchoLine::new, Checks::busy);
            }
        });
        Checks.test("5: IllegalArgumentException if value is out of range", () -> {
            for (int setting = 0; setting <= 2; setting++) {
                int its = setting;
                for (int value : new int[] {bounds[setting][0] - 1, bounds[setting][1] + 1, LOW, HIGH}) {
                    Checks.refused("set " + its + " to " + value, BAD_ARGUMENT, x -> x.set(its, value),
                            EchoLine::new, Checks::busy);
                }
            }
        });
        Checks.test("5: the setting is named ahead of the value", () -> {
            Checks.refused("both", NO_SEAT, x -> x.set(3, 51), EchoLine::new, Checks::busy);
            Checks.refused("both", NO_SEAT, x -> x.set(-1, -1), EchoLine::new, Checks::busy);
        });
        Checks.test("5: Undoable, also if it changes nothing", () -> {
            undoable("another value", x -> x.set(2, 50));
            undoable("the same value", x -> x.set(1, 1));
        });
        Checks.test("5: a setting can be changed when no word and no beat is left", () ->
                due("at the end", Checks.exhausted().set(2, 50), 8));
    }

    /** The call saves one state, and undo brings it back, on a new object and behind others. */
    private static void undoable(String call, Checks.Call undoable) {
        EchoLine x = new EchoLine();
        undoable.on(x);
        due(call + " saves", x.count(9), 1);
        due(call + " is undone", x.undo(), 0);
        Checks.same(call + ", undone, and a new object", x, new EchoLine());
        EchoLine y = new EchoLine();
        y.say(1, 5, 2);
        y.say(2, 6, 2);
        long before = y.digest();
        undoable.on(y);
        due(call + " saves one more", y.count(9), 3);
        due(call + " is undone alone", y.undo(), 2);
        due(call + ", undone", y.digest(), before);
    }

    private static void due(String call, long got, long want) {
        Checks.due(call, got, want);
    }
}

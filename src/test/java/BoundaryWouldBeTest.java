/** The boundary cases of the promises 20 to 24: a test by sentence. */
public final class BoundaryWouldBeTest {
    private static final int NONE = Checks.NONE;
    private static final int LOW = Checks.LOW;
    private static final int HIGH = Checks.HIGH;
    private static final Class<?> NO_SEAT = Checks.NO_SEAT;
    private static final Class<?> BAD_ARGUMENT = Checks.BAD_ARGUMENT;

    public static void main(String[] args) {
        ifSilent();
        heardIn();
        heardInByTheSettingOfNow();
        heardInAtTheEnd();
        heardInRefused();
        bestSeatByReach();
        bestSeatByTime();
        heardShare();
        digestOfFew();
        digestOfMany();
        digestOfTexts();
        Checks.finish("BoundaryWouldBeTest");
    }

    private static void ifSilent() {
        Checks.test("20: NONE for silence: no word, one word, and too long ago", () -> {
            EchoLine x = Checks.withoutDelay();
            due("no word", x.ifSilent(0), NONE);
            x.say(0, 1, NONE);
            due("one word", x.ifSilent(0), NONE);
            x.say(0, 2, NONE);
            due("two words", x.ifSilent(0), 0);
            x.pass(6);
            due("8 beats ago", x.ifSilent(0), 0);
            x.pass(1);
            due("9 beats ago", x.ifSilent(0), NONE);
        });
        Checks.test("20: in the beat of now: a word that comes in it, and one a beat later", () -> {
            EchoLine x = new EchoLine();
            x.say(0, 1, NONE);
            x.say(0, 2, NONE);
            Checks.dueEach("second one comes", seat -> x.comes(1, seat) - x.count(0), 0, 1, 2, 3, 2, 1);
            Checks.dueEach("would be heard", seat -> x.ifSilent(seat), 0, NONE, NONE, NONE, NONE, NONE);
            x.pass(1);
            Checks.dueEach("was heard", seat -> x.heard(seat, 2, 0), 0, NONE, NONE, NONE, NONE, NONE);
            Checks.dueEach("would be heard", seat -> x.ifSilent(seat), 0, 0, NONE, NONE, NONE, 0);
        });
        Checks.test("20: what a speaker would hear: by setting 2 of now", () -> {
            EchoLine x = Checks.withoutDelay();
            x.say(0, 1, NONE);
            x.say(0, 2, NONE);
            x.set(2, 1);
            due("2 beats ago", x.ifSilent(0), NONE);
            x.set(2, 2);
            due("2 beats ago", x.ifSilent(0), 0);
        });
        Checks.test("20: in the beat 400, and behind 200 words", () -> {
            EchoLine x = Checks.atBeat(398);
            x.set(0, 0);
            x.say(0, 1, NONE);
            x.say(0, 2, NONE);
            due("beat 400", x.ifSilent(0), 0);
            EchoLine y = Checks.withoutDelay();
            for (int number = 0; number < 200; number++) {
                y.say(0, 1, NONE);
            }
            due("behind 200 words", y.ifSilent(5), 198);
        });
        Checks.test("20: IndexOutOfBoundsException if there is no such seat", () -> {
            for (int seat : new int[] {-1, 6, LOW, HIGH}) {
                Checks.refused("ifSilent of " + seat, NO_SEAT, x -> x.ifSilent(seat), EchoLine::new, Checks::busy);
            }
        });
    }

    private static void heardIn() {
        Checks.test("21: NONE if there is no such word", () -> {
            EchoLine x = Checks.behindWords(2);
            for (int number : new int[] {2, 199, 200, HIGH}) {
                due("number " + number, x.heardIn(number, 0), NONE);
            }
            due("of a new object", new EchoLine().heardIn(0, 5), NONE);
        });
        Checks.test("21: 0 if it was heard already: also if it is heard again, or never again", () -> {
            EchoLine x = Checks.withoutDelay();
            x.say(0, 1, NONE);
            x.say(0, 2, NONE);
            due("would be heard again", x.ifSilent(3), 0);
            due("heard already", x.heardIn(0, 3), 0);
            x.pass(50);
            due("would not", x.ifSilent(3), NONE);
            due("heard already", x.heardIn(0, 3), 0);
        });
        Checks.test("21: Returns behind how many beats, from now on: the beat of now is the first one", () -> {
            EchoLine x = new EchoLine();
            x.say(0, 1, NONE);
            x.say(0, 2, NONE);
            // The second one comes in the beats 2 to 5; the beat of now is 2.
            Checks.dueEach("behind", seat -> x.heardIn(0, seat), 1, 2, 3, 4, 3, 2);
            x.pass(1);
            Checks.dueEach("behind", seat -> x.heardIn(0, seat), 0, 1, 2, 3, 2, 1);
            x.pass(3);
            Checks.dueEach("behind", seat -> x.heardIn(0, seat), 0, 0, 0, 0, 0, 0);
        });
        Checks.test("21: NONE if not in 60: the last voice, and one that never comes", () -> {
            EchoLine x = Checks.withoutDelay();
            x.set(2, 50);
            x.wall(3, Checks.HUNG);
            x.say(0, 1, NONE);
            x.say(0, 2, NONE);
            Checks.dueEach("the last voice", seat -> x.heardIn(1, seat), NONE, NONE, NONE, NONE, NONE, NONE);
            Checks.dueEach("the one before", seat -> x.heardIn(0, seat), 0, 0, 0, NONE, 0, 0);
            x.say(5, 3, NONE);
            due("one that never comes", x.heardIn(1, 3), NONE);
        });
        Checks.test("21: NONE if not in 60: it does not count any more when the next one comes", () -> {
            EchoLine x = Checks.withoutDelay();
            x.say(0, 1, NONE);
            x.set(2, 4);
            x.set(0, 4);
            x.say(0, 2, NONE);
            due("five beats later", x.comes(1, 0), 5);
            due("not in 60", x.heardIn(0, 0), NONE);
            x.set(2, 5);
            due("in the fourth beat from now on", x.heardIn(0, 0), 4);
        });
    }

    private static void heardInByTheSettingOfNow() {
        Checks.test("21: 0 if it was heard already: not if it was silent, and would not be any more", () -> {
            EchoLine x = Checks.withoutDelay();
            x.set(2, 1);
            x.say(0, 1, NONE);
            x.pass(1);
            x.say(0, 2, NONE);
            due("two beats between them", x.heardIn(0, 3), NONE);
            x.set(2, 8);
            due("was not heard", x.whyNot(0, 3), 3);
            due("from now on", x.heardIn(0, 3), 1);
        });
    }

    private static void heardInAtTheEnd() {
        Checks.test("21: (the bound of the beat does not matter)", () -> {
            EchoLine x = Checks.atBeat(398);
            x.set(0, 5);
            x.set(1, 4);
            x.wall(3, Checks.HOLLOW);
            x.say(0, 1, NONE);
            x.say(0, 2, NONE);
            due("comes far behind 400", x.comes(1, 3), 399 + 19);
            due("the beats 400 to 418", x.heardIn(0, 3), 19);
            due("at the nearest seat, the beats 400 to 404", x.heardIn(0, 0), 5);
            due("the last voice", x.heardIn(1, 3), NONE);
        });
        Checks.test("21: the longest time: 19 beats", () -> {
            EchoLine x = new EchoLine();
            x.set(0, 5);
            x.set(1, 4);
            x.wall(3, Checks.HOLLOW);
            x.say(0, 1, NONE);
            x.say(0, 2, NONE);
            due("beats", x.heardIn(0, 3), 19);
            x.pass(18);
            due("one beat before", x.heardIn(0, 3), 1);
            due("not heard yet", x.whyNot(0, 3), 3);
            x.pass(1);
            due("heard", x.heardIn(0, 3), 0);
        });
        Checks.test("21: behind 200 words", () -> {
            EchoLine x = Checks.withoutDelay();
            for (int number = 0; number < 198; number++) {
                x.say(0, 1, NONE);
            }
            x.set(0, 5);
            x.say(0, 1, NONE);
            x.say(0, 1, NONE);
            // They come in the beats 203 and 204; the beat of now is 200.
            due("the last but one", x.heardIn(198, 4), 5);
            due("the last one", x.heardIn(199, 4), NONE);
        });
    }

    private static void heardInRefused() {
        Checks.test("21: IndexOutOfBoundsException if there is no such seat", () -> {
            for (int seat : new int[] {-1, 6, LOW, HIGH}) {
                Checks.refused("heardIn of " + seat, NO_SEAT, x -> x.heardIn(0, seat), EchoLine::new,
                        Checks::busy);
            }
        });
        Checks.test("21: IllegalArgumentException if number is below 0", () -> {
            for (int number : new int[] {-1, LOW}) {
                Checks.refused("heardIn " + number, BAD_ARGUMENT, x -> x.heardIn(number, 5), EchoLine::new,
                        Checks::busy);
            }
        });
        Checks.test("21: the seat is named ahead of the number", () ->
                Checks.refused("both", NO_SEAT, x -> x.heardIn(-1, 6), EchoLine::new, Checks::busy));
    }

    private static void bestSeatByReach() {
        Checks.test("22: the seat from which a word would come to the most seats: the highest one", () ->
                // An open wall lets nothing come from the seats beside it.
                bestWith(5, 0, 3, 3, 3, 0, 0));
        Checks.test("22: the seat from which a word would come to the most seats: not all of them", () ->
                // From 0, 2 and 4 to four of them, since not to those beside; from 1, 3 and 5 to five.
                bestWith(1, 1, 3, 1, 3, 1, 3));
        Checks.test("22: the most seats ahead of the earliest", () ->
                // From 0 it would not come to 3, but to all others a beat sooner than from 1 to all.
                bestWith(1, 0, 0, 0, 1, 0, 0));
        Checks.test("22: the most seats: walls of one kind all around", () -> {
            for (int kind = 0; kind <= 3; kind++) {
                bestWith(0, kind, kind, kind, kind, kind, kind);
            }
        });
    }

    private static void bestSeatByTime() {
        Checks.test("22: of several the one from which it would have come to all of these the earliest", () -> {
            // From 0 in 5 beats, since it comes to 2 in 5; from 5 in 6; from 1, 2 and 3 in 4.
            bestWith(1, 0, 0, 2, 0, 0, 0);
            bestWith(3, 0, 0, 0, 0, 2, 0);
        });
        Checks.test("22: come to all of these the earliest: not to those to which it does not come", () -> {
            // From 0 in 4 beats to all but 5; from 1 in 3 beats to all but the one opposite.
            bestWith(1, 1, 0, 1, 3, 1, 3);
            // From 0 in 4 beats, but not to 3; of the others only 4 and 5 are done in 4.
            bestWith(4, 0, 0, 0, 1, 0, 2);
        });
        Checks.test("22: of several of those the lowest", () -> {
            bestWith(0, 0, 0, 0, 0, 0, 0);
            bestWith(2, 0, 0, 0, 2, 0, 0);
        });
        Checks.test("22: says one more word now: by the settings of now", () -> {
            EchoLine x = new EchoLine();
            x.wall(3, Checks.HOLLOW);
            due("one step, one beat", x.bestSeat(), 2);
            x.set(1, 0);
            due("the same from all", x.bestSeat(), 0);
            x.set(1, 4);
            // To the opposite seat 13; to 3 from 0 it is 15, from 1 and 5 it is 11.
            due("one step, four beats", x.bestSeat(), 1);
        });
        Checks.test("22: when no word and no beat is left", () -> {
            EchoLine x = Checks.exhausted();
            x.wall(3, Checks.HOLLOW);
            due("as ever", x.bestSeat(), 2);
        });
    }

    private static void bestWith(int seat, int... kinds) {
        EchoLine x = new EchoLine();
        for (int place = 0; place < 6; place++) {
            x.wall(place, kinds[place]);
        }
        long before = x.digest();
        due("bestSeat", x.bestSeat(), seat);
        due("nothing is changed", x.digest(), before);
    }

    private static void heardShare() {
        Checks.test("23: 0.0 without any", () -> {
            share(new EchoLine(), 0.0);
            EchoLine x = Checks.atBeat(9);
            while (x.count(9) > 0) {
                x.undo();
            }
            share(x, 0.0);
        });
        Checks.test("23: the first beats", () -> {
            share(Checks.atBeat(1), 0.0);
            EchoLine x = Checks.withoutDelay();
            x.say(0, 1, NONE);
            share(x, 0.0);
            x.say(0, 2, NONE);
            share(x, 6.0 / 12.0);
            x.say(0, 3, NONE);
            share(x, 12.0 / 18.0);
        });
        Checks.test("23: of all speakers", () -> {
            EchoLine x = new EchoLine();
            x.set(0, 0);
            x.say(0, 1, NONE);
            x.say(0, 2, NONE);
            share(x, 1.0 / 12.0);
            x.pass(1);
            share(x, 4.0 / 18.0);
            x.pass(1);
            share(x, 9.0 / 24.0);
        });
        Checks.test("23: the largest one and the smallest one above 0.0", () -> {
            EchoLine x = Checks.withoutDelay();
            for (int number = 0; number < 200; number++) {
                x.say(0, 1, NONE);
            }
            share(x, 199.0 * 6.0 / 1200.0);
            EchoLine y = Checks.atBeat(398);
            y.set(0, 0);
            y.say(0, 1, NONE);
            y.say(0, 2, NONE);
            share(y, 1.0 / 2400.0);
        });
    }

    private static void share(EchoLine x, double want) {
        due("heardShare, by its bits", Double.doubleToLongBits(x.heardShare()), Double.doubleToLongBits(want));
    }

    private static void digestOfFew() {
        Checks.test("24: The hash starts at 3853: without any word and any beat", () -> {
            due("of a new object", new EchoLine().digest(), -1882323656395721925L);
            digestOf(EchoLine::new, "");
        });
        Checks.test("24: in long arithmetic with overflow: with one word and one beat", () -> {
            EchoLine x = new EchoLine();
            x.say(0, 1, NONE);
            due("of one word", x.digest(), -9130218210958210054L);
            digestOf(() -> Checks.behindWords(1), "");
        });
        Checks.test("24: heardIn of the latest word (NONE without one)", () -> digestOf(() -> Checks.atBeat(9), ""));
    }

    private static void digestOfMany() {
        Checks.test("24: for the latest 12 words, as many as there are", () -> {
            for (int words = 2; words <= 14; words++) {
                int all = words;
                digestOf(() -> Checks.behindWords(all), "");
            }
        });
        Checks.test("24: for the latest 8 beats that are over, as many as there are", () -> {
            for (int beat = 1; beat <= 10; beat++) {
                int now = beat;
                digestOf(() -> Checks.atBeat(now), "");
            }
            for (int beats = 1; beats <= 12; beats++) {
                int pause = beats;
                digestOf(() -> {
                    EchoLine x = Checks.withoutDelay();
                    x.say(1, 2, 3);
                    x.say(2, 3, 4);
                    x.pass(pause);
                    return x;
                }, "");
            }
        });
        Checks.test("24: the last word and the last beat", () -> {
            digestOf(() -> Checks.behindWords(200), "");
            digestOf(Checks::exhausted, "");
            digestOf(() -> Checks.atBeat(400), "");
        });
        Checks.test("24: walls, settings, marks and saved states", () -> digestOf(Checks::busy, "0:7,8#1;."));
        Checks.test("24: the bits of heardShare, of many shares", () -> {
            for (int slow = 0; slow < 6; slow++) {
                for (int beats = 1; beats <= 40; beats += 3) {
                    int seat = slow;
                    int pause = beats;
                    digestOf(() -> {
                        EchoLine x = Checks.withoutDelay();
                        x.wall(seat, Checks.OPEN);
                        x.set(2, 1 + pause);
                        x.say((seat + 1) % 6, 1, NONE);
                        x.say(seat, 1, NONE);
                        x.pass(pause);
                        x.say(0, 1, 1);
                        return x;
                    }, "");
                }
            }
        });
        Checks.test("24: Computes a hash, and changes nothing", () -> {
            EchoLine x = Checks.busy();
            long first = x.digest();
            due("once more", x.digest(), first);
            Checks.same("hashed, and not", x, Checks.busy());
        });
    }

    private static void digestOfTexts() {
        Checks.test("24: the length of the buffer and each of its character codes: empty, one, full", () -> {
            digestOf(() -> Checks.typed("!"), "!");
            digestOf(() -> Checks.typed("~"), "~");
            digestOf(Checks::withFullBuffer, "!~".repeat(30));
        });
        Checks.test("24: each of its character codes: not what was cleared", () -> digestOf(() -> {
            EchoLine x = Checks.withFullBuffer();
            x.clearBuffer();
            Checks.type(x, "0:1");
            return x;
        }, "0:1"));
    }

    /**
     * The digest of a chamber as the document tells it, from the answers of the other methods. The
     * chamber is made anew for each row of values, so that no object comes to its 513th call.
     */
    private static void digestOf(Checks.Maker chamber, String typed) {
        long hash = speakers(3853, chamber.make());
        hash = latestBeats(latestWords(hash, chamber.make()), chamber.make());
        for (int from = 0; from < 6; from++) {
            hash = messages(hash, chamber.make(), from);
        }
        EchoLine x = chamber.make();
        for (int seat = 0; seat < 6; seat++) {
            hash = 31 * hash + (x.count(1) == 0 ? NONE : x.heardIn(x.count(1) - 1, seat));
        }
        hash = 31 * hash + x.bestSeat();
        hash = 31 * hash + Double.doubleToLongBits(x.heardShare());
        hash = 31 * hash + typed.length();
        for (int place = 0; place < typed.length(); place++) {
            hash = 31 * hash + typed.charAt(place);
        }
        due("digest", x.digest(), hash);
    }

    private static long speakers(long before, EchoLine x) {
        long hash = before;
        for (int what = 0; what <= 9; what++) {
            hash = 31 * hash + x.count(what);
        }
        for (int seat = 0; seat < 6; seat++) {
            for (int what = 0; what <= 7; what++) {
                hash = 31 * hash + x.speaker(seat, what);
            }
            hash = 31 * hash + x.ifSilent(seat);
        }
        return hash;
    }

    private static long latestWords(long before, EchoLine x) {
        long hash = before;
        int words = x.count(1);
        for (int number = words - 1; number >= 0 && number > words - 13; number--) {
            for (int what = 0; what <= 5; what++) {
                hash = 31 * hash + x.said(number, what);
            }
            for (int seat = 0; seat < 6; seat++) {
                hash = 31 * hash + x.comes(number, seat);
                hash = 31 * hash + x.whyNot(number, seat);
            }
        }
        return hash;
    }

    private static long latestBeats(long before, EchoLine x) {
        long hash = before;
        int now = x.count(0);
        for (int beat = now - 1; beat >= 0 && beat > now - 9; beat--) {
            for (int seat = 0; seat < 6; seat++) {
                for (int what = 0; what <= 2; what++) {
                    hash = 31 * hash + x.heard(seat, beat, what);
                }
            }
        }
        return hash;
    }

    private static long messages(long before, EchoLine x, int from) {
        long hash = before;
        for (int mark = 0; mark <= 9; mark++) {
            int sum = 0;
            for (int seat = 0; seat < 6; seat++) {
                sum += x.message(from, mark, seat);
            }
            hash = 31 * hash + sum;
        }
        return hash;
    }

    private static void due(String call, long got, long want) {
        Checks.due(call, got, want);
    }
}

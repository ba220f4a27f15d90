import java.util.Arrays;
import java.util.function.Supplier;

/** Each promise of the document, by answers worked out by hand: ordinary, at the edges, wrong. */
public final class PromisesTest {
    private static final int NONE = EchoLine.NONE;
    private static final Class<?> NO_SEAT = IndexOutOfBoundsException.class;
    private static final Class<?> BAD_ARGUMENT = IllegalArgumentException.class;
    private static final Class<?> BAD_STATE = IllegalStateException.class;
    private static final int LOW = Integer.MIN_VALUE;
    private static final int HIGH = Integer.MAX_VALUE;

    private static int checks = 0;
    private static int wrong = 0;

    private interface Call {
        Object answer();
    }

    public static void main(String[] args) {
        promise01NewObject();
        promise02Say();
        promise02SayBounds();
        promise03Pass();
        promise04Wall();
        promise05Set();
        promise05SettingsHoldFromThenOn();
        promise06Append();
        promise07ClearBuffer();
        promise08FirstError();
        promise09Talk();
        promise09TalkStops();
        promise10Undo();
        promise11Keep();
        promise12Restore();
        promise13Said();
        promise14Comes();
        promise15Heard();
        promise15Memory();
        promise15SameBeat();
        promise16Speaker();
        promise17Message();
        promise18Count();
        promise19WhyNot();
        promise20IfSilent();
        promise21HeardIn();
        promise22BestSeat();
        promise23HeardShare();
        promise24Digest();
        System.out.println("PromisesTest: " + checks + " checks, " + wrong + " wrong");
        if (wrong != 0) {
            System.exit(1);
        }
    }

    private static void promise01NewObject() {
        EchoLine x = new EchoLine();
        due("1 beat", x.count(0), 0);
        due("1 words", x.count(1), 0);
        due("1 settings", x.count(6) * 100 + x.count(7) * 10 + x.count(8), 118);
        due("1 saved", x.count(9), 0);
        for (int seat = 0; seat < 6; seat++) {
            due("1 all walls bare", x.speaker(seat, 0), 0);
        }
        due("1 empty buffer", x.clearBuffer(), 0);
        refused("1 no snapshot", BAD_STATE, x, () -> x.restore());
        refused("1 no saved state", BAD_STATE, x, () -> x.undo());
        due("1 NONE", NONE, -1);
    }

    private static void promise02Say() {
        EchoLine x = new EchoLine();
        due("2 first", x.say(0, 1, 0), 0);
        due("2 second", x.say(5, 99, 9), 1);
        due("2 third", x.say(3, 50, NONE), 2);
        due("2 beats go on", x.count(0), 3);
        due("2 undoable", x.count(9), 3);
        for (int seat : new int[] {-1, 6, LOW, HIGH}) {
            refused("2 seat " + seat, NO_SEAT, x, () -> x.say(seat, 1, 0));
            refused("2 seat first " + seat, NO_SEAT, x, () -> x.say(seat, 0, 10));
        }
        for (int word : new int[] {0, 100, -1, LOW, HIGH}) {
            refused("2 word " + word, BAD_ARGUMENT, x, () -> x.say(0, word, 0));
        }
        for (int mark : new int[] {-2, 10, LOW, HIGH}) {
            refused("2 mark " + mark, BAD_ARGUMENT, x, () -> x.say(0, 1, mark));
        }
    }

    private static void promise02SayBounds() {
        EchoLine words = new EchoLine();
        for (int number = 0; number < 200; number++) {
            due("2 word " + number, words.say(number % 6, 7, NONE), number);
        }
        refused("2 201st word", BAD_STATE, words, () -> words.say(0, 1, 0));
        refused("2 seat ahead of state", NO_SEAT, words, () -> words.say(6, 1, 0));
        refused("2 word ahead of state", BAD_ARGUMENT, words, () -> words.say(0, 0, 0));
        due("2 undone", words.undo(), 5);
        due("2 200th again", words.say(2, 3, NONE), 199);

        EchoLine beats = new EchoLine();
        for (int pause = 0; pause < 7; pause++) {
            beats.pass(50);
        }
        beats.pass(49);
        due("2 in the last beat", beats.say(0, 1, 0), 0);
        due("2 last beat is over", beats.count(0), 400);
        refused("2 beat 400", BAD_STATE, beats, () -> beats.say(0, 1, 0));
    }

    private static void promise03Pass() {
        EchoLine x = new EchoLine();
        due("3 one", x.pass(1), 1);
        due("3 fifty", x.pass(50), 51);
        due("3 says nothing", x.count(1), 0);
        due("3 undoable", x.count(9), 2);
        for (int beats : new int[] {0, 51, -1, LOW, HIGH}) {
            refused("3 beats " + beats, BAD_ARGUMENT, x, () -> x.pass(beats));
        }
        for (int pause = 0; pause < 6; pause++) {
            x.pass(50);
        }
        refused("3 401", BAD_STATE, x, () -> x.pass(50));
        due("3 exactly 400", x.pass(49), 400);
        refused("3 above 400", BAD_STATE, x, () -> x.pass(1));
        refused("3 argument first", BAD_ARGUMENT, x, () -> x.pass(51));
    }

    private static void promise04Wall() {
        EchoLine x = new EchoLine();
        due("4 was bare", x.wall(3, 1), 0);
        due("4 was hung", x.wall(3, 3), 1);
        due("4 was open", x.wall(3, 2), 3);
        due("4 was hollow", x.wall(3, 2), 2);
        due("4 undoable, also if nothing changes", x.count(9), 4);
        due("4 others stay", x.speaker(2, 0), 0);
        for (int seat : new int[] {-1, 6, LOW, HIGH}) {
            refused("4 seat " + seat, NO_SEAT, x, () -> x.wall(seat, 4));
        }
        for (int kind : new int[] {-1, 4, LOW, HIGH}) {
            refused("4 kind " + kind, BAD_ARGUMENT, x, () -> x.wall(0, kind));
        }
        // Seat 0 is the one who hears; each of the six says a word, in the beats 0 to 5.
        comesTo0("4 bare", 0, 1, 3, 5, 7, 7, 7);
        comesTo0("4 hung", 1, 1, 3, 5, NONE, 7, 7);
        comesTo0("4 hollow", 2, 3, 5, 7, 9, 9, 9);
        comesTo0("4 open", 3, 1, NONE, 5, 7, 7, NONE);
    }

    private static void comesTo0(String what, int kind, int... beats) {
        EchoLine x = new EchoLine();
        x.wall(0, kind);
        for (int seat = 0; seat < 6; seat++) {
            x.say(seat, 1, NONE);
            due(what + " from " + seat, x.comes(seat, 0), beats[seat]);
        }
        x.wall(0, (kind + 1) % 4);
        for (int seat = 0; seat < 6; seat++) {
            due(what + " stays from " + seat, x.comes(seat, 0), beats[seat]);
        }
    }

    private static void promise05Set() {
        EchoLine x = new EchoLine();
        due("5 setting 0", x.set(0, 5), 1);
        due("5 setting 0 again", x.set(0, 0), 5);
        due("5 setting 1", x.set(1, 4), 1);
        due("5 setting 1 again", x.set(1, 0), 4);
        due("5 setting 2", x.set(2, 50), 8);
        due("5 setting 2 again", x.set(2, 1), 50);
        due("5 drops the oldest, counts six", x.count(9), 6);
        due("5 same value", x.set(2, 1), 1);
        due("5 values", x.count(6) * 100 + x.count(7) * 10 + x.count(8), 1);
        for (int setting : new int[] {-1, 3, LOW, HIGH}) {
            refused("5 setting " + setting, NO_SEAT, x, () -> x.set(setting, -1));
        }
        int[][] outside = {{0, -1}, {0, 6}, {1, -1}, {1, 5}, {2, 0}, {2, 51}, {2, LOW}, {0, HIGH}};
        for (int[] pair : outside) {
            refused("5 " + Arrays.toString(pair), BAD_ARGUMENT, x, () -> x.set(pair[0], pair[1]));
        }
    }

    private static void promise05SettingsHoldFromThenOn() {
        EchoLine x = new EchoLine();
        x.say(0, 1, NONE);
        x.set(0, 3);
        x.set(1, 2);
        x.say(0, 2, NONE);
        due("5 said before", x.comes(0, 3), 4);
        due("5 said behind", x.comes(1, 3), 1 + 3 + 2 * 3);
        due("5 said behind, near", x.comes(1, 0), 4);
        x.set(0, 0);
        x.set(1, 0);
        x.say(4, 3, NONE);
        for (int seat = 0; seat < 6; seat++) {
            due("5 without a delay", x.comes(2, seat), 2);
        }
    }

    private static void promise06Append() {
        EchoLine x = new EchoLine();
        due("6 lowest", x.append(33), 1);
        due("6 highest", x.append(126), 2);
        for (int code : new int[] {32, 127, 0, -1, 256 + 48, 65536 + 48, LOW, HIGH}) {
            refused("6 code " + code, BAD_ARGUMENT, x, () -> x.append(code));
        }
        for (int length = 3; length <= 60; length++) {
            due("6 length", x.append('0'), length);
        }
        refused("6 full", BAD_STATE, x, () -> x.append('0'));
        refused("6 argument first", BAD_ARGUMENT, x, () -> x.append(32));
        due("6 not undoable", x.count(9), 0);
    }

    private static void promise07ClearBuffer() {
        EchoLine x = new EchoLine();
        due("7 empty", x.clearBuffer(), 0);
        type(x, "0:1");
        due("7 three", x.clearBuffer(), 3);
        due("7 empty again", x.clearBuffer(), 0);
        due("7 starts anew", x.append('0'), 1);
        due("7 not undoable", x.count(9), 0);
    }

    private static void promise08FirstError() {
        errorAt("", 0);
        errorAt("0", 1);
        errorAt("5:1", 3);
        errorAt("6", 0);
        errorAt(":", 0);
        errorAt(";", 0);
        errorAt("0;", 1);
        errorAt("00", 1);
        errorAt("0:0", 2);
        errorAt("0:;", 2);
        errorAt("0::", 2);
        errorAt("0:#", 2);
        errorAt("0:9", 3);
        errorAt("0:99", 4);
        errorAt("0:100", 4);
        errorAt("0:10,20,3", 9);
        errorAt("0:1,,", 4);
        errorAt("0:1,0", 4);
        errorAt("0:1,#", 4);
        errorAt("0:1.", 3);
        errorAt("0:1:", 3);
        errorAt("0:1#", 4);
        errorAt("0:1#a", 4);
        errorAt("0:1#;", 4);
        errorAt("0:1#:", 4);
        errorAt("0:1##", 4);
        errorAt("0:1#0", 5);
        errorAt("0:1#9", 5);
        errorAt("0:1#10", 5);
        errorAt("0:1#1,", 5);
        errorAt("0:1#1#", 5);
        errorAt("0:12#3;4:5", 10);
        errorAt(".", 1);
        errorAt(".0", 1);
        errorAt(".;", 1);
        errorAt(".:", 1);
        errorAt("..", 1);
        errorAt(".1", 2);
        errorAt(".9", 2);
        errorAt(".19", 3);
        errorAt(".49", 3);
        errorAt(".50", 3);
        errorAt(".51", 2);
        errorAt(".60", 2);
        errorAt(".99", 2);
        errorAt(".100", 3);
        errorAt(".500", 3);
        errorAt(".5,", 2);
        errorAt(".5#", 2);
        errorAt(".5;.6;1:2", 9);
        errorAt(".5;;", 3);
        errorAt(".5;6", 3);
        errorAt("~0:1", 0);
        errorAt("0:1;z0:1;", 4);
    }

    private static void errorAt(String text, int place) {
        EchoLine x = new EchoLine();
        type(x, text);
        due("8 " + text, x.firstError(), place);
        due("8 changes nothing in " + text, x.clearBuffer(), text.length());
    }

    private static void promise09Talk() {
        EchoLine x = new EchoLine();
        String[] incomplete = {"", "0", "0:", "0:1,", "0:1#", "0:1;", ".", ".1;", "0:0", "6:1", "0:1#11",
            ".51", "1:2;;3:4", "0:100"};
        for (String text : incomplete) {
            type(x, text);
            refused("9 " + text, BAD_ARGUMENT, x, () -> x.talk());
            due("9 the buffer stays with " + text, x.clearBuffer(), text.length());
        }
        type(x, "5:12,3#7;.20;0:9,99,10;2:4#0");
        due("9 words", x.talk(), 6);
        due("9 buffer is cleared", x.clearBuffer(), 0);
        due("9 as one call", x.count(9), 1);
        due("9 beat", x.count(0), 26);
        int[][] all = {{5, 12, 7, 0}, {5, 3, 7, 1}, {0, 9, NONE, 22}, {0, 99, NONE, 23}, {0, 10, NONE, 24},
            {2, 4, 0, 25}};
        for (int number = 0; number < all.length; number++) {
            for (int what = 0; what <= 3; what++) {
                due("9 word " + number + " its " + what, x.said(number, what), all[number][what]);
            }
        }
        due("9 undone as one", x.undo(), 0);
        due("9 nothing was said", x.count(0) + x.count(1), 0);
        due("9 undo leaves the buffer", x.clearBuffer(), 0);
        type(x, "3:1");
        due("9 shortest", x.talk(), 1);
        type(x, ".50");
        due("9 a pause alone", x.talk(), 0);
        due("9 beats", x.count(0), 51);
    }

    private static void promise09TalkStops() {
        EchoLine beats = new EchoLine();
        for (int pause = 0; pause < 7; pause++) {
            beats.pass(50);
        }
        beats.pass(45);
        type(beats, "0:1,2#3;.4;1:5");
        due("9 stops at the pause", beats.talk(), 2);
        due("9 nothing of the pause passes", beats.count(0), 397);
        type(beats, ".2;1:6,7,8;.1");
        due("9 stops at the word", beats.talk(), 1);
        due("9 beat 400", beats.count(0), 400);
        type(beats, ".1;1:6");
        int saved = beats.count(9);
        due("9 nothing happens", beats.talk(), 0);
        due("9 buffer is cleared all the same", beats.clearBuffer(), 0);
        due("9 six are saved", saved, 6);
        due("9 saved also if nothing happens", beats.undo(), 5);
        due("9 undone to the same", beats.count(0), 400);
        beats.undo();
        due("9 undone to before the word", beats.count(0), 397);

        EchoLine words = new EchoLine();
        for (int number = 0; number < 199; number++) {
            words.say(0, 1, NONE);
        }
        type(words, "4:1,2,3;.5");
        due("9 stops at word 200", words.talk(), 1);
        due("9 nothing behind it happens", words.count(0), 200);
    }

    private static void promise10Undo() {
        EchoLine x = new EchoLine();
        refused("10 none", BAD_STATE, x, () -> x.undo());
        x.say(0, 1, 2);
        x.wall(1, 2);
        x.set(2, 20);
        type(x, "0:1");
        due("10 left", x.undo(), 2);
        due("10 setting is back", x.count(8), 8);
        due("10 wall is not yet", x.speaker(1, 0), 2);
        due("10 left", x.undo(), 1);
        due("10 wall is back", x.speaker(1, 0), 0);
        due("10 left", x.undo(), 0);
        due("10 word is back", x.count(1), 0);
        due("10 beat is back", x.count(0), 0);
        due("10 message is back", x.count(4), 0);
        due("10 buffer is not touched", x.clearBuffer(), 3);
        refused("10 none again", BAD_STATE, x, () -> x.undo());
        for (int call = 1; call <= 8; call++) {
            x.pass(call);
        }
        due("10 at most six", x.count(9), 6);
        int[] beats = {28, 21, 15, 10, 6, 3};
        for (int step = 0; step < 6; step++) {
            due("10 left", x.undo(), 5 - step);
            due("10 beat", x.count(0), beats[step]);
        }
        refused("10 the oldest were dropped", BAD_STATE, x, () -> x.undo());
    }

    private static void promise11Keep() {
        EchoLine x = new EchoLine();
        due("11 beat 0", x.keep(), 0);
        x.pass(7);
        due("11 beat 7", x.keep(), 7);
        due("11 not undoable", x.count(9), 1);
        x.pass(1);
        due("11 in place of the one before", x.restore(), 7);
        x.undo();
        x.undo();
        due("11 undo leaves the snapshot", x.restore(), 7);
    }

    private static void promise12Restore() {
        EchoLine x = new EchoLine();
        refused("12 none", BAD_STATE, x, () -> x.restore());
        x.say(1, 2, 3);
        x.wall(4, 1);
        x.set(0, 2);
        x.keep();
        long kept = x.digest();
        x.wall(4, 2);
        x.set(0, 5);
        x.set(2, 1);
        x.say(2, 9, 9);
        type(x, "0:");
        due("12 beat", x.restore(), 1);
        due("12 undoable", x.count(9), 6);
        due("12 words", x.count(1), 1);
        due("12 messages", x.count(4), 1);
        due("12 wall", x.speaker(4, 0), 1);
        due("12 settings", x.count(6) * 100 + x.count(7) * 10 + x.count(8), 218);
        due("12 buffer is not touched", x.clearBuffer(), 2);
        x.pass(50);
        due("12 stays", x.restore(), 1);
        due("12 undone", x.undo(), 5);
        due("12 as before", x.count(0), 51);
        x.undo();
        x.undo();
        due("12 undone restore", x.count(1), 2);
        due("12 the state of the snapshot", kept == x.digest() ? 1 : 0, 0);
    }

    /** Four words and six beats of silence; what each seat hears stands in HEARD. */
    private static EchoLine fourWords() {
        EchoLine x = new EchoLine();
        x.say(0, 11, 3);
        x.say(2, 22, NONE);
        x.say(0, 33, 3);
        x.say(3, 44, 4);
        x.pass(6);
        return x;
    }

    private static final int[][] HEARD = {
        {NONE, NONE, NONE, 0, 2, 2, 2, 1, 1, 1},
        {NONE, NONE, NONE, 0, 1, 1, 2, 2, 2, 2},
        {NONE, NONE, NONE, 1, 1, 2, 2, 2, 2, 2},
        {NONE, NONE, NONE, NONE, 0, 0, 3, 3, 3, 3},
        {NONE, NONE, NONE, NONE, 0, 2, 2, 2, 2, 2},
        {NONE, NONE, NONE, NONE, 0, 2, 1, 1, 1, 1}};

    private static void promise13Said() {
        EchoLine x = fourWords();
        int[][] all = {{0, 11, 3, 0, 63, 59}, {2, 22, NONE, 1, 63, 39}, {0, 33, 3, 2, 63, 55},
            {3, 44, 4, 3, 63, 8}};
        for (int number = 0; number < 4; number++) {
            for (int what = 0; what <= 5; what++) {
                due("13 " + number + " " + what, x.said(number, what), all[number][what]);
            }
        }
        for (int what = 0; what <= 5; what++) {
            due("13 no such word", x.said(4, what), NONE);
            due("13 no such word", x.said(HIGH, what), NONE);
        }
        x.wall(1, 1);
        x.wall(5, 3);
        x.say(4, 1, 0);
        due("13 mask of the seats to which it comes", x.said(4, 4), 63 - 2 - 32);
        refused("13 number", BAD_ARGUMENT, x, () -> x.said(-1, 0));
        refused("13 number", BAD_ARGUMENT, x, () -> x.said(LOW, 0));
        refused("13 what", BAD_ARGUMENT, x, () -> x.said(0, 6));
        refused("13 what", BAD_ARGUMENT, x, () -> x.said(0, -1));
        refused("13 what without a word", BAD_ARGUMENT, x, () -> x.said(200, HIGH));
    }

    private static void promise14Comes() {
        EchoLine x = fourWords();
        int[][] all = {{1, 2, 3, 4, 3, 2}, {4, 3, 2, 3, 4, 5}, {3, 4, 5, 6, 5, 4}, {7, 6, 5, 4, 5, 6}};
        for (int number = 0; number < 4; number++) {
            for (int seat = 0; seat < 6; seat++) {
                due("14 " + number + " " + seat, x.comes(number, seat), all[number][seat]);
            }
        }
        due("14 no such word", x.comes(4, 0), NONE);
        due("14 no such word", x.comes(HIGH, 0), NONE);
        x.set(0, 5);
        x.set(1, 4);
        x.wall(1, 2);
        x.wall(0, 1);
        x.say(4, 1, NONE);
        due("14 longest delay", x.comes(4, 1), 10 + 5 + 4 * 3 + 2);
        x.say(3, 1, NONE);
        due("14 never", x.comes(5, 0), NONE);
        refused("14 seat", NO_SEAT, x, () -> x.comes(0, 6));
        refused("14 seat first", NO_SEAT, x, () -> x.comes(-1, -1));
        refused("14 number", BAD_ARGUMENT, x, () -> x.comes(-1, 5));
    }

    private static void promise15Heard() {
        EchoLine x = fourWords();
        int[] words = {11, 22, 33, 44};
        for (int seat = 0; seat < 6; seat++) {
            for (int beat = 0; beat < 10; beat++) {
                int number = HEARD[seat][beat];
                boolean again = beat > 0 && HEARD[seat][beat - 1] == number;
                due("15 number", x.heard(seat, beat, 0), number);
                due("15 word", x.heard(seat, beat, 1), number == NONE ? NONE : words[number]);
                due("15 repeated", x.heard(seat, beat, 2), number == NONE ? NONE : again ? 1 : 0);
            }
            for (int what = 0; what <= 2; what++) {
                due("15 not over", x.heard(seat, 10, what), NONE);
                due("15 not over", x.heard(seat, 400, what), NONE);
                due("15 not over", x.heard(seat, HIGH, what), NONE);
            }
        }
        refused("15 seat", NO_SEAT, x, () -> x.heard(6, 0, 0));
        refused("15 seat first", NO_SEAT, x, () -> x.heard(-1, -1, 3));
        refused("15 beat", BAD_ARGUMENT, x, () -> x.heard(0, -1, 0));
        refused("15 what", BAD_ARGUMENT, x, () -> x.heard(0, 0, 3));
        refused("15 what", BAD_ARGUMENT, x, () -> x.heard(0, 0, -1));
    }

    /** The same word said again is another word, so that it is not marked as repeated. */
    private static void promise15Memory() {
        EchoLine x = new EchoLine();
        x.say(0, 7, NONE);
        x.say(0, 7, NONE);
        x.say(0, 7, NONE);
        x.pass(20);
        // They come to seat 0 in the beats 1, 2 and 3, and count until 9, 10 and 11.
        for (int beat = 0; beat < 23; beat++) {
            int number = beat == 2 ? 0 : beat >= 3 && beat <= 10 ? 1 : NONE;
            due("15 up to 8 beats ago, " + beat, x.heard(0, beat, 0), number);
        }
        due("15 another word", x.heard(0, 3, 2), 0);
        due("15 the same word", x.heard(0, 4, 2), 1);

        EchoLine y = new EchoLine();
        y.set(2, 1);
        y.say(0, 1, NONE);
        y.say(0, 2, NONE);
        y.pass(3);
        due("15 one beat ago", y.heard(0, 2, 0), 0);
        due("15 two beats ago", y.heard(0, 3, 0), NONE);
        y.set(2, 50);
        y.pass(1);
        due("15 from then on", y.heard(0, 5, 0), 0);
        due("15 not what was heard", y.heard(0, 3, 0), NONE);
        for (int beat = 6; beat < 56; beat += 10) {
            y.pass(10);
        }
        due("15 fifty beats ago", y.heard(0, 51, 0), 0);
        due("15 more than fifty", y.heard(0, 52, 0), NONE);
    }

    private static void promise15SameBeat() {
        EchoLine x = new EchoLine();
        x.say(3, 1, NONE);
        x.pass(2);
        x.say(0, 2, NONE);
        x.pass(1);
        // Both come to seat 0 in beat 4; the one that was said later came later.
        due("15 together", x.comes(0, 0) * 10 + x.comes(1, 0), 44);
        x.pass(1);
        due("15 said first is the second-last", x.heard(0, 4, 0), 0);

        EchoLine y = new EchoLine();
        y.set(0, 0);
        y.say(0, 1, NONE);
        y.say(0, 2, NONE);
        due("15 said in the beat itself", y.heard(0, 1, 0), 0);
        due("15 still alone", y.heard(0, 0, 0), NONE);
    }

    private static void promise16Speaker() {
        EchoLine x = fourWords();
        x.wall(0, 3);
        int[] seat0 = {3, 7, 3, 4, 3, 0, 2, 3};
        int[] seat3 = {0, 6, 2, 4, 4, 0, 1, 2};
        for (int what = 0; what <= 7; what++) {
            due("16 seat 0 " + what, x.speaker(0, what), seat0[what]);
            due("16 seat 3 " + what, x.speaker(3, what), seat3[what]);
        }
        due("16 said nothing", x.speaker(5, 6), 0);
        refused("16 seat", NO_SEAT, x, () -> x.speaker(6, 0));
        refused("16 seat first", NO_SEAT, x, () -> x.speaker(-1, -1));
        refused("16 what", BAD_ARGUMENT, x, () -> x.speaker(0, 8));
        refused("16 what", BAD_ARGUMENT, x, () -> x.speaker(0, -1));

        EchoLine y = new EchoLine();
        y.say(0, 1, NONE);
        y.say(0, 2, NONE);
        y.pass(10);
        due("16 silence that has not ended is no gap", y.speaker(0, 5), 0);
        y.say(0, 3, NONE);
        y.say(0, 4, NONE);
        due("16 still none", y.speaker(0, 5), 0);
        y.pass(1);
        due("16 one gap", y.speaker(0, 5), 1);
        due("16 silent beats", y.speaker(0, 4), 6);
        y.pass(20);
        y.say(0, 5, NONE);
        y.say(0, 6, NONE);
        y.pass(9);
        due("16 two gaps", y.speaker(0, 5), 2);
    }

    private static void promise17Message() {
        EchoLine x = fourWords();
        int[] first = {3, 3, 1, 1, 3, 3};
        int[] second = {0, 0, 0, 3, 0, 0};
        for (int seat = 0; seat < 6; seat++) {
            due("17 of 0 with 3", x.message(0, 3, seat), first[seat]);
            due("17 of 3 with 4", x.message(3, 4, seat), second[seat]);
            due("17 of 2, without a mark", x.message(2, 0, seat), NONE);
            due("17 of 3 with 3", x.message(3, 3, seat), NONE);
        }
        refused("17 from", NO_SEAT, x, () -> x.message(6, 0, 0));
        refused("17 from", NO_SEAT, x, () -> x.message(-1, 10, 0));
        refused("17 seat", NO_SEAT, x, () -> x.message(0, 10, 6));
        refused("17 seat", NO_SEAT, x, () -> x.message(0, 0, -1));
        refused("17 mark", BAD_ARGUMENT, x, () -> x.message(0, 10, 0));
        refused("17 mark", BAD_ARGUMENT, x, () -> x.message(0, NONE, 0));

        EchoLine y = new EchoLine();
        y.set(0, 5);
        y.say(1, 1, 6);
        y.set(0, 0);
        y.say(1, 2, 6);
        y.say(1, 3, NONE);
        due("17 some is heard", y.message(1, 6, 1), 1);
        y.pass(3);
        y.say(1, 4, NONE);
        // At seat 1: word 1 in beat 1, word 2 in 2, word 0 in 5, word 3 in 6.
        y.pass(1);
        due("17 first heard", y.heard(1, 2, 0) * 10 + y.heard(1, 6, 0), 10);
        due("17 out of order", y.message(1, 6, 1), 2);
        y.say(1, 5, 6);
        due("17 one more word breaks it", y.message(1, 6, 1), 1);
    }

    private static void promise18Count() {
        EchoLine x = fourWords();
        int[] all = {10, 4, 0, 0, 2, 0, 1, 1, 8, 5};
        for (int what = 0; what <= 9; what++) {
            due("18 " + what, x.count(what), all[what]);
        }
        refused("18 what", BAD_ARGUMENT, x, () -> x.count(10));
        refused("18 what", BAD_ARGUMENT, x, () -> x.count(-1));
        refused("18 what", BAD_ARGUMENT, x, () -> x.count(HIGH));

        EchoLine y = new EchoLine();
        y.set(0, 0);
        y.set(1, 0);
        y.say(0, 1, 4);
        due("18 nobody heard it", y.count(3), 1);
        y.say(1, 2, 4);
        y.say(0, 3, 4);
        // Each word comes to all at once, and is heard by all in the next beat.
        due("18 all heard", y.count(2), 2);
        due("18 nobody heard the last", y.count(3), 1);
        due("18 messages", y.count(4), 2);
        due("18 whole to all", y.count(5), 1);
        y.pass(3);
        y.say(5, 4, NONE);
        due("18 whole to all", y.count(5), 2);
        y.set(0, 5);
        y.set(1, 4);
        y.set(2, 50);
        due("18 settings", y.count(6) * 1000 + y.count(7) * 100 + y.count(8), 5450);
        due("18 saved", y.count(9), 6);
    }

    private static void promise19WhyNot() {
        EchoLine x = fourWords();
        int[][] all = {{0, 0, 3, 0, 0, 0}, {0, 0, 0, 3, 3, 0}, {0, 0, 0, 3, 0, 0}, {3, 3, 3, 0, 3, 3}};
        for (int number = 0; number < 4; number++) {
            for (int seat = 0; seat < 6; seat++) {
                due("19 " + number + " " + seat, x.whyNot(number, seat), all[number][seat]);
            }
        }
        due("19 no such word", x.whyNot(4, 0), NONE);
        x.wall(2, 1);
        x.say(5, 1, NONE);
        due("19 never comes", x.whyNot(4, 2), 1);
        due("19 comes in the beat of now", x.comes(4, 5), 11);
        due("19 not over yet", x.whyNot(4, 5), 2);
        due("19 comes later", x.whyNot(4, 0), 2);
        x.pass(1);
        due("19 over now", x.whyNot(4, 5), 3);
        due("19 comes in the beat of now", x.whyNot(4, 0), 2);
        refused("19 seat", NO_SEAT, x, () -> x.whyNot(0, 6));
        refused("19 seat first", NO_SEAT, x, () -> x.whyNot(-1, -1));
        refused("19 number", BAD_ARGUMENT, x, () -> x.whyNot(-1, 0));
    }

    private static void promise20IfSilent() {
        EchoLine x = new EchoLine();
        due("20 nothing", x.ifSilent(0), NONE);
        x.say(0, 1, NONE);
        due("20 one word", x.ifSilent(0), NONE);
        x.say(0, 2, NONE);
        due("20 in the beat of now", x.ifSilent(0), 0);
        due("20 not come yet", x.ifSilent(1), NONE);
        x.pass(1);
        due("20 come now", x.ifSilent(1), 0);
        x.set(2, 1);
        due("20 setting 2 as it is now", x.ifSilent(0), NONE);
        due("20 nothing is changed", x.count(0), 3);
        refused("20 seat", NO_SEAT, x, () -> x.ifSilent(6));
        refused("20 seat", NO_SEAT, x, () -> x.ifSilent(-1));

        EchoLine last = new EchoLine();
        for (int pause = 0; pause < 7; pause++) {
            last.pass(50);
        }
        last.pass(48);
        last.say(0, 1, NONE);
        last.say(0, 2, NONE);
        due("20 in beat 400", last.ifSilent(0), 0);
    }

    private static void promise21HeardIn() {
        EchoLine x = new EchoLine();
        due("21 no such word", x.heardIn(0, 0), NONE);
        x.say(0, 1, NONE);
        due("21 alone", x.heardIn(0, 0), NONE);
        x.say(0, 2, NONE);
        // At seat 3 they come in the beats 4 and 5, so it is heard when 2 to 5 are over.
        due("21 behind one", x.heardIn(0, 0), 1);
        due("21 behind four", x.heardIn(0, 3), 4);
        due("21 the last is never heard", x.heardIn(1, 3), NONE);
        due("21 nothing is changed", x.count(0), 2);
        x.pass(1);
        due("21 was heard", x.heardIn(0, 0), 0);
        due("21 behind three", x.heardIn(0, 3), 3);
        x.pass(2);
        due("21 behind one", x.heardIn(0, 3), 1);
        x.pass(1);
        due("21 was heard", x.heardIn(0, 3), 0);
        due("21 no such word", x.heardIn(HIGH, 3), NONE);
        refused("21 seat", NO_SEAT, x, () -> x.heardIn(0, 6));
        refused("21 seat first", NO_SEAT, x, () -> x.heardIn(-1, -1));
        refused("21 number", BAD_ARGUMENT, x, () -> x.heardIn(-1, 0));

        EchoLine late = new EchoLine();
        for (int pause = 0; pause < 7; pause++) {
            late.pass(50);
        }
        late.pass(47);
        late.set(0, 5);
        late.set(1, 4);
        late.say(0, 1, NONE);
        late.say(0, 2, NONE);
        late.say(0, 3, NONE);
        due("21 the bound of the beat does not matter", late.heardIn(1, 3), 399 + 17 - 400 + 1);
        late.set(0, 0);
        late.undo();
        late.undo();
        late.wall(3, 2);
        late.say(0, 4, NONE);
        due("21 a hollow wall", late.heardIn(1, 3), 399 + 19 - 400 + 1);
    }

    private static void promise22BestSeat() {
        EchoLine x = new EchoLine();
        due("22 all alike", x.bestSeat(), 0);
        x.wall(3, 1);
        // From 0 it would come to five seats, in three beats; from the others to all, in four.
        due("22 most seats ahead of the earliest", x.bestSeat(), 1);
        x.wall(4, 1);
        due("22 most seats", x.bestSeat(), 2);
        x.wall(5, 1);
        due("22 most seats", x.bestSeat(), 3);
        due("22 nothing is changed", x.count(0), 0);

        EchoLine y = new EchoLine();
        y.wall(0, 2);
        // To 0 it is 2 more: from 3 six beats, from 2 and 4 five, from all others four.
        due("22 the earliest to all", y.bestSeat(), 0);
        y.wall(1, 2);
        due("22 the earliest to all", y.bestSeat(), 0);
        y.wall(5, 2);
        due("22 the earliest to all", y.bestSeat(), 0);
        y.wall(3, 2);
        // From 0 to 3 it is six now, from 1 to 3 five, and to 5 five.
        due("22 the earliest to all", y.bestSeat(), 1);
        y.set(1, 0);
        due("22 the same from all", y.bestSeat(), 0);

        EchoLine z = new EchoLine();
        z.wall(0, 1);
        z.wall(2, 1);
        z.wall(4, 1);
        // From 1, 3 and 5 it does not come to one seat; from 0, 2 and 4 to all.
        due("22 most seats", z.bestSeat(), 0);
        z.wall(0, 3);
        z.wall(3, 3);
        // From 0 and 3 to all; from 1 and 5 not to 0 and one more; from 2 and 4 not to 3.
        due("22 the lowest", z.bestSeat(), 0);
        z.wall(1, 3);
        due("22 not from beside the open wall", z.bestSeat(), 3);
    }

    private static void promise23HeardShare() {
        EchoLine x = new EchoLine();
        share("23 without any", x, 0.0);
        x.pass(1);
        share("23 nothing was heard", x, 0.0);
        EchoLine y = fourWords();
        share("23 of four words", y, 39.0 / 60.0);
        y.wall(0, 1);
        share("23 walls change nothing", y, 39.0 / 60.0);
        y.pass(1);
        share("23 one beat more", y, 45.0 / 66.0);
    }

    private static void share(String what, EchoLine x, double want) {
        checks++;
        double got = x.heardShare();
        if (Double.doubleToLongBits(got) != Double.doubleToLongBits(want)) {
            fail(what, got, want);
        }
    }

    private static void promise24Digest() {
        digestIsAsTold("24 new", EchoLine::new, "");
        for (int more = 0; more <= 14; more++) {
            int words = more;
            digestIsAsTold("24 behind five words and " + more, () -> fiveWordsAnd(words), "0:7~");
        }
        EchoLine y = fiveWordsAnd(0);
        due("24 nothing is changed", y.digest() == y.digest() ? 1 : 0, 1);
    }

    private static EchoLine fiveWordsAnd(int more) {
        EchoLine y = fourWords();
        type(y, "0:7~");
        y.wall(3, 1);
        y.say(1, 2, 9);
        for (int number = 0; number < more; number++) {
            y.say(number % 6, 99 - number, number % 10);
        }
        return y;
    }

    /** One chamber, made anew behind 400 looks, since what calls behind the 512th answer is free. */
    private static final class Renewed {
        private final Supplier<EchoLine> maker;
        private EchoLine line;
        private int looks = 0;

        Renewed(Supplier<EchoLine> maker) {
            this.maker = maker;
        }

        EchoLine line() {
            if (looks % 400 == 0) {
                line = maker.get();
            }
            looks++;
            return line;
        }
    }

    /** No method tells the characters of the buffer, so they are told here by the text. */
    private static void digestIsAsTold(String what, Supplier<EchoLine> maker, String typed) {
        Renewed x = new Renewed(maker);
        long hash = 31 * digestAheadOfBuffer(x) + typed.length();
        for (int place = 0; place < typed.length(); place++) {
            hash = 31 * hash + typed.charAt(place);
        }
        due(what, maker.get().digest() == hash ? 1 : 0, 1);
    }

    /** The digest as the document tells it, from the answers of the other methods. */
    private static long digestAheadOfBuffer(Renewed x) {
        long hash = 3853;
        for (int what = 0; what <= 9; what++) {
            hash = 31 * hash + x.line().count(what);
        }
        for (int seat = 0; seat < 6; seat++) {
            for (int what = 0; what <= 7; what++) {
                hash = 31 * hash + x.line().speaker(seat, what);
            }
            hash = 31 * hash + x.line().ifSilent(seat);
        }
        int words = x.line().count(1);
        int beats = x.line().count(0);
        for (int number = words - 1; number >= 0 && number >= words - 12; number--) {
            for (int what = 0; what <= 5; what++) {
                hash = 31 * hash + x.line().said(number, what);
            }
            for (int seat = 0; seat < 6; seat++) {
                hash = 31 * hash + x.line().comes(number, seat);
                hash = 31 * hash + x.line().whyNot(number, seat);
            }
        }
        for (int beat = beats - 1; beat >= 0 && beat >= beats - 8; beat--) {
            for (int seat = 0; seat < 6; seat++) {
                for (int what = 0; what <= 2; what++) {
                    hash = 31 * hash + x.line().heard(seat, beat, what);
                }
            }
        }
        for (int from = 0; from < 6; from++) {
            for (int mark = 0; mark <= 9; mark++) {
                int sum = 0;
                for (int seat = 0; seat < 6; seat++) {
                    sum += x.line().message(from, mark, seat);
                }
                hash = 31 * hash + sum;
            }
        }
        for (int seat = 0; seat < 6; seat++) {
            hash = 31 * hash + (words == 0 ? NONE : x.line().heardIn(words - 1, seat));
        }
        hash = 31 * hash + x.line().bestSeat();
        return 31 * hash + Double.doubleToLongBits(x.line().heardShare());
    }

    private static void type(EchoLine x, String text) {
        for (int place = 0; place < text.length(); place++) {
            x.append(text.charAt(place));
        }
    }

    private static void due(String what, long got, long want) {
        checks++;
        if (got != want) {
            fail(what, got, want);
        }
    }

    /** The call must throw exactly this exception, and leave everything as it was. */
    private static void refused(String what, Class<?> kind, EchoLine x, Call call) {
        checks++;
        long before = x.digest();
        Object got;
        try {
            got = call.answer();
        } catch (RuntimeException e) {
            got = e.getClass();
        }
        if (got != kind) {
            fail(what, got, kind);
        }
        due(what + " changes nothing", x.digest() == before ? 1 : 0, 1);
    }

    private static void fail(String what, Object got, Object want) {
        wrong++;
        System.out.println("promise " + what + ": answered " + got + ", due is " + want);
    }
}

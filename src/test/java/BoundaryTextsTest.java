/** The boundary cases of the promises 6 to 9, and of the input text: a test by sentence. */
public final class BoundaryTextsTest {
    private static final int NONE = Checks.NONE;
    private static final Class<?> BAD_ARGUMENT = Checks.BAD_ARGUMENT;
    private static final Class<?> BAD_STATE = Checks.BAD_STATE;

    /** Two characters and 29 words, one of them of two digits: 60 characters. */
    private static final String FULL_DIALOGUE = "5:" + "1,".repeat(28) + "99";

    public static void main(String[] args) {
        append();
        clearBuffer();
        lengths();
        seatsAndWords();
        marks();
        pauses();
        parts();
        eachCharacter();
        completeTexts();
        wholeTalk();
        talkStopsAtWords();
        talkStopsAtPauses();
        talkAndUndo();
        Checks.finish("BoundaryTextsTest");
    }

    private static void append() {
        Checks.test("6: code: the character code, 33 to 126", () -> {
            EchoLine x = new EchoLine();
            due("lowest", x.append(33), 1);
            due("highest", x.append(126), 2);
            int[] outside = {32, 127, 0, -1, 33 + 256, 33 + 65536, Checks.LOW, Checks.HIGH};
            for (int code : outside) {
                Checks.refused("append " + code, BAD_ARGUMENT, y -> y.append(code), EchoLine::new, Checks::busy);
            }
        });
        Checks.test("6: Returns the new length of the buffer", () -> {
            EchoLine x = new EchoLine();
            for (int length = 1; length <= 60; length++) {
                due("length", x.append('0'), length);
            }
        });
        Checks.test("6: IllegalStateException if the buffer has 60 characters", () -> {
            EchoLine x = Checks.typed("0".repeat(59));
            due("the last one", x.append('~'), 60);
            Checks.refused("one more", BAD_STATE, y -> y.append('~'), Checks::withFullBuffer);
            x.clearBuffer();
            due("cleared", x.append('~'), 1);
            EchoLine y = Checks.typed(FULL_DIALOGUE);
            y.talk();
            due("talked", y.append('~'), 1);
        });
        Checks.test("6: the code is named ahead of the full buffer", () -> {
            Checks.refused("too small", BAD_ARGUMENT, x -> x.append(32), Checks::withFullBuffer);
            Checks.refused("too large", BAD_ARGUMENT, x -> x.append(127), Checks::withFullBuffer);
        });
        Checks.test("6: Appends a character to the buffer, and saves no state", () -> {
            EchoLine x = Checks.typed("0:12");
            due("saved states", x.count(9), 0);
            x.pass(1);
            x.append(',');
            x.undo();
            due("undo leaves it", x.firstError(), 5);
            due("all characters", x.clearBuffer(), 5);
        });
    }

    private static void clearBuffer() {
        Checks.test("7: Returns the length that it had: empty, one, full", () -> {
            due("empty", new EchoLine().clearBuffer(), 0);
            due("one", Checks.typed("0").clearBuffer(), 1);
            EchoLine x = Checks.withFullBuffer();
            due("full", x.clearBuffer(), 60);
            due("empty again", x.clearBuffer(), 0);
        });
        Checks.test("7: Clears the buffer: what is typed then begins anew", () -> {
            EchoLine x = Checks.typed("zzz");
            x.clearBuffer();
            Checks.type(x, "0:1");
            due("no error", x.firstError(), 3);
            Checks.same("cleared, and never typed", x, Checks.typed("0:1"));
        });
        Checks.test("7: saves no state", () -> {
            EchoLine x = Checks.typed("0");
            x.clearBuffer();
            due("saved states", x.count(9), 0);
        });
    }

    private static void lengths() {
        Checks.test("8: the length of the buffer if there is none: empty", () -> errorAt("", 0));
        Checks.test("8: the length of the buffer if there is none: not complete", () -> errorAt("0:1,", 4));
        Checks.test("8: the length of the buffer if there is none: complete", () -> errorAt("0:1", 3));
        Checks.test("8: the length of the buffer if there is none: full", () -> errorAt(FULL_DIALOGUE, 60));
        Checks.test("8: no dialogue as a text, of any length, begins with: longer than the buffer", () -> {
            errorAt("5:" + "1,".repeat(29), 60);
            errorAt(".1;".repeat(20), 60);
        });
        Checks.test("8: the index of the first character that is a syntax error: the first one", () -> {
            errorAt("6", 0);
            errorAt("~0:1", 0);
        });
        Checks.test("8: the index of the first character that is a syntax error: the last one", () -> {
            errorAt("0:1~", 3);
            errorAt("5:" + "1,".repeat(28) + "9~", 59);
        });
        Checks.test("8: the index of the first character that is a syntax error: of several", () -> {
            errorAt("0:0;0:0", 2);
            errorAt("0;0:1", 1);
        });
        Checks.test("8: The buffer is read from left to right: right behind an error is wrong, too", () ->
                errorAt(";0:1", 0));
    }

    private static void seatsAndWords() {
        Checks.test("8: a seat, 0 to 5", () -> {
            errorAt("0", 1);
            errorAt("5", 1);
            errorAt("6", 0);
            errorAt("/", 0);
            errorAt("00", 1);
            errorAt("10", 1);
        });
        Checks.test("8: one or more words", () -> {
            errorAt("0:,", 2);
            errorAt("0:;", 2);
            errorAt("0:#", 2);
            errorAt("0:1,2,3", 7);
            errorAt("0:1,,", 4);
            errorAt("0:1,;", 4);
            errorAt("0:1,#", 4);
        });
        Checks.test("8: words, 1 to 99", () -> {
            errorAt("0:1", 3);
            errorAt("0:9", 3);
            errorAt("0:10", 4);
            errorAt("0:99", 4);
            errorAt("0:100", 4);
            errorAt("0:990", 4);
            errorAt("0:0", 2);
            errorAt("0:1,0", 4);
        });
        Checks.test("8: numbers without a leading zero: words", () -> {
            errorAt("0:01", 2);
            errorAt("0:9,09", 4);
        });
    }

    private static void marks() {
        Checks.test("8: perhaps \"#\" and a mark, 0 to 9", () -> {
            errorAt("0:1#", 4);
            errorAt("0:1#0", 5);
            errorAt("0:1#9", 5);
            errorAt("0:1#10", 5);
            errorAt("0:1#00", 5);
            errorAt("0:1#:", 4);
            errorAt("0:1#/", 4);
            errorAt("0:1#;", 4);
            errorAt("0:1##", 4);
            errorAt("0:1#1#", 5);
            errorAt("0:1#1,", 5);
        });
    }

    private static void pauses() {
        Checks.test("8: beats, 1 to 50", () -> {
            errorAt(".", 1);
            errorAt(".1", 2);
            errorAt(".9", 2);
            errorAt(".10", 3);
            errorAt(".49", 3);
            errorAt(".50", 3);
            errorAt(".51", 2);
            errorAt(".59", 2);
            errorAt(".60", 2);
            errorAt(".99", 2);
            errorAt(".100", 3);
            errorAt(".500", 3);
            errorAt(".0", 1);
        });
        Checks.test("8: numbers without a leading zero: beats", () -> errorAt(".01", 1));
    }

    private static void parts() {
        Checks.test("8: one or more parts with \";\" between them", () -> {
            errorAt(";", 0);
            errorAt("0:1;", 4);
            errorAt("0:1;;", 4);
            errorAt("0:1;2:3", 7);
            errorAt("0:1#2;.3;4:5", 12);
            errorAt(".1.2", 2);
            errorAt(".1;.2", 5);
        });
    }

    private static void eachCharacter() {
        Checks.test("8: a character is a syntax error: each of them, behind each beginning", () -> {
            mayFollow("", "012345.");
            mayFollow("0", ":");
            mayFollow("5", ":");
            mayFollow("0:", "123456789");
            mayFollow("0:1", "0123456789,#;");
            mayFollow("0:9", "0123456789,#;");
            mayFollow("0:10", ",#;");
            mayFollow("0:99", ",#;");
            mayFollow("0:1,", "123456789");
            mayFollow("0:1,2", "0123456789,#;");
            mayFollow("0:1#", "0123456789");
            mayFollow("0:12#", "0123456789");
            mayFollow("0:1#0", ";");
            mayFollow("0:1#9", ";");
            mayFollow(".", "123456789");
            mayFollow(".1", "0123456789;");
            mayFollow(".4", "0123456789;");
            mayFollow(".5", "0;");
            mayFollow(".6", ";");
            mayFollow(".9", ";");
            mayFollow(".10", ";");
            mayFollow(".49", ";");
            mayFollow(".50", ";");
            mayFollow("0:1;", "012345.");
            mayFollow("0:1#2;", "012345.");
            mayFollow(".5;", "012345.");
        });
    }

    private static void mayFollow(String beginning, String signs) {
        int place = beginning.length();
        for (int code = 33; code <= 126; code++) {
            EchoLine x = Checks.typed(beginning);
            x.append(code);
            int due = signs.indexOf(code) >= 0 ? place + 1 : place;
            due("firstError of " + beginning + (char) code, x.firstError(), due);
        }
    }

    private static void errorAt(String text, int place) {
        EchoLine x = Checks.typed(text);
        due("firstError of " + text, x.firstError(), place);
        Checks.same("a text that was read, and one that was not", x, Checks.typed(text));
    }

    private static void completeTexts() {
        Checks.test("9: IllegalArgumentException if the buffer is not complete (the buffer stays): empty", () ->
                noDialogue(""));
        Checks.test("9: IllegalArgumentException if the buffer is not complete: it only begins", () -> {
            for (String text : new String[] {"0", "5:", "0:1,", "0:1#", "0:1;", "0:1#2;", ".", ".1;"}) {
                noDialogue(text);
            }
            noDialogue("5:" + "1,".repeat(29));
        });
        Checks.test("9: IllegalArgumentException if the buffer is not complete: it has an error", () -> {
            String[] texts = {"6:1", "0:0", "0:100", "0:01", "0:1#10", ".0", ".51", ".01", "0:1;;0:1", ";0:1",
                "0:1~", "~0:1", "0:1!"};
            for (String text : texts) {
                noDialogue(text);
            }
            Checks.refused("talk", BAD_ARGUMENT, x -> x.talk(), Checks::withFullBuffer);
        });
        Checks.test("9: IllegalArgumentException if the buffer is not complete: when nothing could happen", () ->
                Checks.refused("talk", BAD_ARGUMENT, x -> x.talk(), Checks::exhausted));
    }

    private static void noDialogue(String text) {
        Checks.refused("talk of " + text, BAD_ARGUMENT, x -> x.talk(), () -> Checks.typed(text), () -> {
            EchoLine x = Checks.busy();
            x.clearBuffer();
            Checks.type(x, text);
            return x;
        });
    }

    private static void wholeTalk() {
        Checks.test("9: Returns how many words are said: none, one, the most", () -> {
            due("a pause alone", Checks.typed(".1").talk(), 0);
            due("the shortest", Checks.typed("0:1").talk(), 1);
            due("of one part", Checks.typed("0:1,2,3").talk(), 3);
            due("of two parts", Checks.typed("0:1,2,3;.5;1:4,5").talk(), 5);
            EchoLine x = Checks.typed(FULL_DIALOGUE);
            due("of a full buffer", x.talk(), 29);
            due("the first of them", x.said(0, 1), 1);
            due("the last of them", x.said(28, 1), 99);
        });
        Checks.test("9: the lowest and the highest seat, word, mark and pause", () -> {
            EchoLine x = Checks.typed("0:1#0;.1;5:99#9;.50;3:10");
            due("words", x.talk(), 3);
            due("beat", x.count(0), 1 + 1 + 1 + 50 + 1);
            Checks.dueEach("first", what -> x.said(0, what), 0, 1, 0, 0);
            Checks.dueEach("second", what -> x.said(1, what), 5, 99, 9, 2);
            Checks.dueEach("third", what -> x.said(2, what), 3, 10, NONE, 53);
        });
        Checks.test("9: with this mark, or without one: all words of the part, and no other one", () -> {
            EchoLine x = Checks.typed("0:1;0:2,3,44#5;0:6");
            x.talk();
            Checks.dueEach("mark", number -> x.said(number, 2), NONE, 5, 5, 5, NONE);
            Checks.dueEach("word", number -> x.said(number, 1), 1, 2, 3, 44, 6);
        });
        Checks.test("9: one behind the other: each word in a beat of its own", () -> {
            EchoLine x = Checks.typed("0:1,2;3:4");
            x.talk();
            Checks.dueEach("said in", number -> x.said(number, 3), 0, 1, 2);
            EchoLine y = new EchoLine();
            y.say(0, 1, NONE);
            y.say(0, 2, NONE);
            y.say(3, 4, NONE);
            Checks.dueEach("as if said", seat -> x.heard(seat, 2, 0) - y.heard(seat, 2, 0), 0, 0, 0, 0, 0, 0);
        });
        Checks.test("9: and clears the buffer", () -> {
            EchoLine x = Checks.typed(FULL_DIALOGUE);
            x.talk();
            due("empty", x.clearBuffer(), 0);
            Checks.refused("talk again", BAD_ARGUMENT, y -> y.talk(), () -> {
                EchoLine y = Checks.typed("0:1");
                y.talk();
                return y;
            });
        });
    }

    private static void talkStopsAtWords() {
        Checks.test("9: up to the first word that cannot be said: word 200", () -> {
            EchoLine x = talkedBehindWords(199, "4:98,99#7;.5;4:1");
            due("the last one", x.said(199, 1), 98);
            due("its mark", x.said(199, 2), 7);
            due("words", x.count(1), 200);
            due("the pause behind it does not pass", x.count(0), 200);
            due("the buffer is cleared", x.clearBuffer(), 0);
        });
        Checks.test("9: up to the first word that cannot be said: exactly 200", () -> {
            EchoLine x = talkedBehindWords(198, "4:1,2;.5");
            due("words", x.count(1), 200);
            due("the pause behind them passes", x.count(0), 205);
        });
        Checks.test("9: up to the first word that cannot be said: a pause ahead of it passes", () -> {
            EchoLine x = talkedBehindWords(200, ".5;4:1,2;.5");
            due("words", x.count(1), 200);
            due("one pause", x.count(0), 205);
        });
        Checks.test("9: up to the first word that cannot be said: beat 400", () -> {
            EchoLine x = talkedAtBeat(398, "4:1,2,3;4:4");
            due("words", x.count(1), 2);
            due("beat", x.count(0), 400);
            due("the buffer is cleared", x.clearBuffer(), 0);
        });
        Checks.test("9: up to the first word that cannot be said: exactly to beat 400", () -> {
            EchoLine x = talkedAtBeat(397, "4:1,2,3");
            due("words", x.count(1), 3);
            due("beat", x.count(0), 400);
        });
    }

    private static void talkStopsAtPauses() {
        Checks.test("9: or pause that cannot pass: what is behind it does not happen", () -> {
            EchoLine x = talkedAtBeat(397, "4:1;.3;4:2");
            due("words", x.count(1), 1);
            due("nothing of the pause", x.count(0), 398);
            due("the buffer is cleared", x.clearBuffer(), 0);
        });
        Checks.test("9: or pause that cannot pass: exactly to beat 400", () -> {
            EchoLine x = talkedAtBeat(397, "4:1;.2;4:2");
            due("words", x.count(1), 1);
            due("the pause passes", x.count(0), 400);
        });
        Checks.test("9: or pause that cannot pass: the first part", () -> {
            EchoLine x = talkedAtBeat(351, ".50;4:1");
            due("words", x.count(1), 0);
            due("beat", x.count(0), 351);
            due("it passes one beat sooner", talkedAtBeat(350, ".50").count(0), 400);
        });
    }

    private static EchoLine talkedBehindWords(int words, String text) {
        EchoLine x = Checks.behindWords(words);
        Checks.type(x, text);
        due("talk of " + text, x.talk(), Math.min(200 - words, 2));
        return x;
    }

    private static EchoLine talkedAtBeat(int beat, String text) {
        EchoLine x = Checks.atBeat(beat);
        Checks.type(x, text);
        int answer = x.talk();
        due("talk of " + text, answer, x.count(1));
        return x;
    }

    private static void talkAndUndo() {
        Checks.test("9: Undoable, as one call", () -> {
            EchoLine x = Checks.typed("0:1,2,3#4;.7;5:6");
            x.talk();
            due("one saved state", x.count(9), 1);
            due("undone", x.undo(), 0);
            Checks.same("undone, and a new object", x, new EchoLine());
        });
        Checks.test("9: Undoable, also if nothing happens", () -> {
            for (String text : new String[] {"0:1", ".1", "0:1,2;.1;3:4"}) {
                EchoLine x = endWithOneState();
                Checks.type(x, text);
                due("nothing happens", x.talk(), 0);
                due("saved", x.count(9), 2);
                due("the buffer is cleared", x.clearBuffer(), 0);
                due("the talk alone is undone", x.undo(), 1);
                Checks.same("undone, and never talked", x, endWithOneState());
            }
        });
        Checks.test("9: Undoable: undo leaves the buffer cleared", () -> {
            EchoLine x = Checks.typed("0:1");
            x.talk();
            x.undo();
            due("empty", x.clearBuffer(), 0);
        });
    }

    /** In beat 400, with one saved state. */
    private static EchoLine endWithOneState() {
        EchoLine x = Checks.atBeat(400);
        x.keep();
        while (x.count(9) > 0) {
            x.undo();
        }
        x.restore();
        return x;
    }

    private static void due(String call, long got, long want) {
        Checks.due(call, got, want);
    }
}

import java.util.ArrayList;
import java.util.List;

/**
 * What the tests of the boundary cases share: a test for each sentence of the document, some
 * chambers to begin with, and the check of a refused call. No test makes more than 512 calls of
 * one object, since what later calls answer is free.
 */
final class Checks {
    static final int NONE = EchoLine.NONE;
    static final int LOW = Integer.MIN_VALUE;
    static final int HIGH = Integer.MAX_VALUE;
    static final Class<?> NO_SEAT = IndexOutOfBoundsException.class;
    static final Class<?> BAD_ARGUMENT = IllegalArgumentException.class;
    static final Class<?> BAD_STATE = IllegalStateException.class;

    static final int BARE = 0;
    static final int HUNG = 1;
    static final int HOLLOW = 2;
    static final int OPEN = 3;

    /** A chamber that is made anew, by the same calls, as often as it is asked for. */
    interface Maker {
        EchoLine make();
    }

    interface Call {
        Object on(EchoLine x);
    }

    private static String sentence = "";
    private static int tests = 0;
    private static int wrong = 0;

    private Checks() {
    }

    /** One sentence of the document, by the number of its promise and its words. */
    static void test(String words, Runnable body) {
        sentence = words;
        tests++;
        try {
            body.run();
        } catch (RuntimeException e) {
            fail("threw " + e);
        }
    }

    static void finish(String name) {
        System.out.println(name + ": " + tests + " tests, " + wrong + " wrong");
        if (wrong != 0) {
            System.exit(1);
        }
    }

    static void due(String call, long got, long want) {
        if (got != want) {
            fail(call + " answered " + got + ", due is " + want);
        }
    }

    /** The answers of one call for each of several arguments, from 0 on. */
    static void dueEach(String call, java.util.function.IntUnaryOperator answer, int... want) {
        for (int argument = 0; argument < want.length; argument++) {
            due(call + " for " + argument, answer.applyAsInt(argument), want[argument]);
        }
    }

    private static void fail(String how) {
        wrong++;
        System.out.println(sentence + "\n    " + how);
    }

    /** The call throws exactly this exception in each of these chambers, and changes nothing. */
    static void refused(String name, Class<?> kind, Call call, Maker... chambers) {
        for (Maker chamber : chambers) {
            EchoLine called = chamber.make();
            Object got;
            try {
                got = call.on(called);
            } catch (RuntimeException e) {
                got = e.getClass();
            }
            if (got != kind) {
                fail(name + " answered " + got + ", due is " + kind);
            }
            same(name + " and the same chamber without it", called, chamber.make());
        }
    }

    /** Two chambers are alike, with all that undo and restore can bring back. */
    static void same(String names, EchoLine one, EchoLine other) {
        List<Long> ofOne = everythingOf(one);
        List<Long> ofOther = everythingOf(other);
        if (!ofOne.equals(ofOther)) {
            fail(names + " are not alike: " + ofOne + " and " + ofOther);
        }
    }

    /** Takes the object to pieces, so that it must not be used behind this. */
    private static List<Long> everythingOf(EchoLine x) {
        List<Long> all = new ArrayList<>();
        all.add(x.digest());
        while (x.count(9) > 0) {
            all.add((long) x.undo());
            all.add(x.digest());
        }
        try {
            all.add((long) x.restore());
            all.add(x.digest());
        } catch (IllegalStateException e) {
            all.add(null);
        }
        return all;
    }

    static void type(EchoLine x, String text) {
        for (int place = 0; place < text.length(); place++) {
            x.append(text.charAt(place));
        }
    }

    static EchoLine typed(String text) {
        EchoLine x = new EchoLine();
        type(x, text);
        return x;
    }

    /** No delay at all: each word comes to all seats in the beat in which it is said. */
    static EchoLine withoutDelay() {
        EchoLine x = new EchoLine();
        x.set(0, 0);
        x.set(1, 0);
        return x;
    }

    /** Words, walls, settings, a text, a snapshot, and six saved states, behind a dropped one. */
    static EchoLine busy() {
        EchoLine x = new EchoLine();
        x.say(0, 11, 3);
        x.say(2, 22, NONE);
        x.keep();
        x.wall(4, OPEN);
        x.say(0, 33, 3);
        x.set(2, 5);
        x.say(3, 44, 9);
        x.pass(3);
        x.wall(1, HUNG);
        x.set(0, 2);
        type(x, "0:7,8#1;.");
        return x;
    }

    static EchoLine atBeat(int beat) {
        EchoLine x = new EchoLine();
        while (x.count(0) < beat) {
            x.pass(Math.min(50, beat - x.count(0)));
        }
        return x;
    }

    static EchoLine behindWords(int words) {
        EchoLine x = new EchoLine();
        for (int number = 0; number < words; number++) {
            x.say(number % 6, 1 + number % 99, number % 10);
        }
        return x;
    }

    /** No word and no beat is left. */
    static EchoLine exhausted() {
        EchoLine x = behindWords(200);
        for (int pause = 0; pause < 4; pause++) {
            x.pass(50);
        }
        return x;
    }

    static EchoLine withFullBuffer() {
        return typed("!~".repeat(30));
    }
}

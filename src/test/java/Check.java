import java.util.Arrays;

/** What the tests of the project share: telling what is due, and typing texts. */
final class Check {
    private static final int MOST_TOLD = 200;

    private static int wrong = 0;
    private static int checks = 0;
    /** Told ahead of what is wrong, as the sentence that is tested. */
    private static String about = "";

    private Check() {
    }

    static void about(String what) {
        about = what;
    }

    /** How many checks were made so far. */
    static int checks() {
        return checks;
    }

    private static void tellWrong(String what) {
        wrong++;
        if (wrong <= MOST_TOLD) {
            System.out.println(about.isEmpty() ? what : "[" + about + "] " + what);
        }
    }

    static void due(String call, long want, long got) {
        checks++;
        if (got != want) {
            tellWrong(call + " answered " + got + ", due is " + want);
        }
    }

    static void isTrue(String what, boolean holds) {
        checks++;
        if (!holds) {
            tellWrong(what);
        }
    }

    /** Types a text into what an object has of it already. */
    static void type(FlagHoists x, String text) {
        for (int i = 0; i < text.length(); i++) {
            int answer = x.type(text.charAt(i));
            isTrue("type of letter " + i + " of '" + text + "' answered " + answer, answer > 0);
        }
    }

    /** A text alone, read. */
    static int read(FlagHoists x, String text) {
        x.clear();
        type(x, text);
        return x.book();
    }

    /** A text read by a new object: what it answers, and that it is gone if it was no fault. */
    static void text(String text, int want) {
        FlagHoists x = new FlagHoists();
        due("book of '" + text + "'", want, read(x, text));
        due("letters behind '" + text + "'", want < 0 ? text.length() : 0, x.count(8));
    }

    /** A text whose fault is at a place. */
    static void fault(String text, int place) {
        text(text, -10 - place);
    }

    /** A new object whose book is read from a text. */
    static FlagHoists booked(String text) {
        FlagHoists x = new FlagHoists();
        int answer = read(x, text);
        isTrue("the text '" + text + "' answered " + answer, answer >= 0);
        return x;
    }

    /** A new object with a book, and sentences in its message. */
    static FlagHoists with(String text, int... sentences) {
        FlagHoists x = booked(text);
        put(x, sentences);
        return x;
    }

    /** Puts sentences at the end of the message. */
    static void put(FlagHoists x, int... sentences) {
        for (int s : sentences) {
            int answer = x.puts(x.count(1), s);
            isTrue("puts of " + s + " answered " + answer, answer == x.count(1) && answer > 0);
        }
    }

    static void message(String when, FlagHoists x, int... sentences) {
        int[] got = new int[Math.max(0, x.count(1))];
        for (int i = 0; i < got.length; i++) {
            got[i] = x.message(i);
        }
        isTrue(when + ": the message is " + Arrays.toString(got) + ", due is " + Arrays.toString(sentences),
                Arrays.equals(got, sentences));
    }

    /** The things of a hoist, and that there are no more. */
    static void things(String when, FlagHoists x, int k, int... things) {
        for (int i = 0; i < things.length; i++) {
            due(when + ": thing(" + k + ", " + i + ")", things[i], x.thing(k, i));
        }
        due(when + ": thing(" + k + ", " + things.length + ")", FlagHoists.NONE, x.thing(k, things.length));
        due(when + ": hoist(" + k + ", 2)", things.length, x.hoist(k, 2));
    }

    /** How many sentences the hoists hold, and that there are no more hoists. */
    static void cut(String when, FlagHoists x, int... sizes) {
        int place = 0;
        for (int k = 0; k < sizes.length; k++) {
            due(when + ": hoist(" + k + ", 0)", place, x.hoist(k, 0));
            due(when + ": hoist(" + k + ", 1)", sizes[k], x.hoist(k, 1));
            place += sizes[k];
        }
        due(when + ": hoist(" + sizes.length + ", 0)", FlagHoists.NONE, x.hoist(sizes.length, 0));
        due(when + ": count(3)", sizes.length, x.count(3));
    }

    /** The answers of count(0), count(1), .. */
    static void counts(String when, FlagHoists x, int... counts) {
        for (int what = 0; what < counts.length; what++) {
            due(when + ": count(" + what + ")", counts[what], x.count(what));
        }
    }

    /** Ends the test: with exit code 1 if something was wrong. */
    static void end() {
        System.out.println(wrong == 0 ? "all is as due (" + checks + " checks)" : wrong + " wrong");
        if (wrong != 0) {
            System.exit(1);
        }
    }
}

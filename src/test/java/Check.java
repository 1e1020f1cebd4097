/** What the tests share: due answers, due exceptions, and setup texts put into the input buffer. */
final class Check {
    interface Call {
        long answer();
    }

    private static int wrong = 0;
    private static int made = 0;

    private Check() {
    }

    static void same(String call, long got, long due) {
        made++;
        if (got != due) {
            wrong++;
            System.out.println(call + " answered " + got + ", due is " + due);
        }
    }

    static void same(String call, boolean got, boolean due) {
        same(call, got ? 1 : 0, due ? 1 : 0);
    }

    /** The exception must be of just this class, not of one above or below it. */
    static void throwing(String call, Class<?> due, Call what) {
        made++;
        String got;
        try {
            got = "answered " + what.answer();
        } catch (RuntimeException e) {
            if (e.getClass() == due) {
                return;
            }
            got = "threw " + e;
        }
        wrong++;
        System.out.println(call + " " + got + ", due is throws." + due.getSimpleName());
    }

    static void outOfBounds(String call, Call what) {
        throwing(call, IndexOutOfBoundsException.class, what);
    }

    static void badArgument(String call, Call what) {
        throwing(call, IllegalArgumentException.class, what);
    }

    static void noElement(String call, Call what) {
        throwing(call, java.util.NoSuchElementException.class, what);
    }

    static void badState(String call, Call what) {
        throwing(call, IllegalStateException.class, what);
    }

    /** Appends a text, filled up with spaces to whole calls of append, and answers the buffer's new length. */
    static int append(AdBreaks radio, String text) {
        int length = 0;
        for (int at = 0; at < text.length(); at += 20) {
            length = radio.append(word(text, at), word(text, at + 4), word(text, at + 8),
                word(text, at + 12), word(text, at + 16));
        }
        return length;
    }

    static int load(AdBreaks radio, String text) {
        append(radio, text);
        return radio.load(text.length());
    }

    static AdBreaks loaded(String text) {
        AdBreaks radio = new AdBreaks();
        int got = load(radio, text);
        if (got < 0) {
            same("load of \"" + text + "\" at offset " + radio.errorOffset(), got, 0);
        }
        return radio;
    }

    static int word(String text, int from) {
        int word = 0;
        for (int at = from; at < from + 4; at++) {
            word = word << 8 | (at < text.length() ? text.charAt(at) & 255 : ' ');
        }
        return word;
    }

    static void finish(String test) {
        System.out.println(test + ": " + made + " checks, " + wrong + " wrong");
        if (wrong != 0) {
            System.exit(1);
        }
    }
}

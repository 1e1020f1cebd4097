/** What the tests share: due answers, due exceptions, and setup texts put into the input buffer. */
final class Check {
    interface Call {
        long answer();
    }

    private static int wrong = 0;
    private static int made = 0;
    /** What the checks that follow are about; it is told before each wrong one. */
    private static String about = "";

    private Check() {
    }

    static void about(String words) {
        about = words;
    }

    static int made() {
        return made;
    }

    static void same(String call, long got, long due) {
        made++;
        if (got != due) {
            wrong++;
            System.out.println(about + call + " answered " + got + ", due is " + due);
        }
    }

    static void same(String call, boolean got, boolean due) {
        same(call, got ? 1 : 0, due ? 1 : 0);
    }

    /** The exception must be of just this class, not of one above or below it. */
    static void throwing(String call, Class<?> due, Call what) {
        made++;
        String got;
        try {
            got = "answered " + what.answer();
        } catch (RuntimeException e) {
            if (e.getClass() == due) {
                return;
            }
            got = "threw " + e;
        }
        wrong++;
        System.out.println(about + call + " " + got + ", due is throws." + due.getSimpleName());
    }

    static void outOfBounds(String call, Call what) {
        throwing(call, IndexOutOfBoundsException.class, what);
    }

    static void badArgument(String call, Call what) {
        throwing(call, IllegalArgumentException.class, what);
    }

    static void noElement(String call, Call what) {
        throwing(call, java.util.NoSuchElementException.class, what);
    }

    static void badState(String call, Call what) {
        throwing(call, IllegalStateException.class, what);
    }

    /** Appends a text, filled up with spaces to whole calls of append, and answers the buffer's new length. */
    static int append(AdBreaks radio, String text) {
        int length = 0;
        for (int at = 0; at < text.length(); at += 20) {
            length = radio.append(word(text, at), word(text, at + 4), word(text, at + 8),
                word(text, at + 12), word(text, at + 16));
        }
        return length;
    }

    static int load(AdBreaks radio, String text) {
        append(radio, text);
        return radio.load(text.length());
    }

    static AdBreaks loaded(String text) {
        AdBreaks radio = new AdBreaks();
        int got = load(radio, text);
        if (got < 0) {
            same("load of \"" + text + "\" at offset " + radio.errorOffset(), got, 0);
        }
        return radio;
    }

    /** A text that must be read, on a new object. */
    static void good(String text, int breaks) {
        AdBreaks radio = new AdBreaks();
        same("load \"" + text + "\"", load(radio, text), breaks);
        same("errorOffset after \"" + text + "\"", radio.errorOffset(), -1);
    }

    /** A text that must have this first error, on a new object. */
    static void bad(String text, int code, int offset) {
        AdBreaks radio = new AdBreaks();
        same("load \"" + text + "\"", load(radio, text), code);
        same("errorOffset after \"" + text + "\"", radio.errorOffset(), offset);
        same("data after \"" + text + "\"", radio.breaks() + radio.sponsors() + radio.checksum(), 0);
    }

    /** The sponsors of a break's spots, in the order of the places. */
    static void row(String call, AdBreaks radio, int index, int... sponsors) {
        same(call + ": spots", radio.breakOf(index, 5), sponsors.length);
        for (int place = 0; place < sponsors.length && place < radio.breakOf(index, 5); place++) {
            same(call + ": sponsor at " + place, radio.spot(index, place, 0), sponsors[place]);
        }
    }

    /** 20 breaks of 300 seconds, three on a day and two on the last; 8 sponsors of 8 categories with the largest cap. */
    static String full() {
        StringBuilder text = new StringBuilder("radio;");
        for (int k = 0; k < 20; k++) {
            text.append("break ").append(k / 3).append(' ').append(k % 3).append(" 300 ").append(k).append(';');
        }
        for (int k = 0; k < 8; k++) {
            text.append("sponsor ").append(k).append(" 9;");
        }
        return text.toString();
    }

    /** All that the queries tell of the data: two pictures are equal if nothing has changed between them. */
    static String picture(AdBreaks radio) {
        StringBuilder told = new StringBuilder();
        for (int index = 0; index < radio.breaks(); index++) {
            told.append("\nbreak");
            for (int what = 0; what <= 6; what++) {
                told.append(' ').append(radio.breakOf(index, what));
            }
            for (int place = 0; place < radio.breakOf(index, 5); place++) {
                told.append(", ").append(radio.spot(index, place, 0)).append(' ').append(radio.spot(index, place, 1))
                    .append(' ').append(radio.spot(index, place, 2));
            }
            for (int sponsor = 0; sponsor < radio.sponsors(); sponsor++) {
                told.append("; ").append(radio.reason(sponsor, 5, index)).append(' ').append(radio.price(sponsor, 60, index));
            }
        }
        for (int sponsor = 0; sponsor < radio.sponsors(); sponsor++) {
            told.append("\nsponsor");
            for (int what = 0; what <= 4; what++) {
                told.append(' ').append(radio.sponsor(sponsor, what));
            }
        }
        for (int index = 0; index < radio.owed(); index++) {
            told.append("\nowed");
            for (int what = 0; what <= 3; what++) {
                told.append(' ').append(radio.owedSpot(index, what));
            }
        }
        for (int pair = 0; pair < 100; pair++) {
            told.append(radio.isBanned(pair / 10, pair % 10) ? " ban " + pair : "");
        }
        return told.append("\nincome ").append(radio.income()).append(" checksum ").append(radio.checksum()).toString();
    }

    static void samePicture(String call, AdBreaks radio, String before) {
        String now = picture(radio);
        same(call + ": all data are as before", now.equals(before), true);
    }

    static int word(String text, int from) {
        int word = 0;
        for (int at = from; at < from + 4; at++) {
            word = word << 8 | (at < text.length() ? text.charAt(at) & 255 : ' ');
        }
        return word;
    }

    static void finish(String test) {
        System.out.println(test + ": " + made + " checks, " + wrong + " wrong");
        if (wrong != 0) {
            System.exit(1);
        }
    }
}

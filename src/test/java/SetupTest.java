/** Promises 1 to 4: a new object, append, load with its grammar and its errors, errorOffset. */
final class SetupTest {
    private static final int SYNTAX = AdBreaks.SYNTAX_ERROR;
    private static final int RANGE = AdBreaks.OUT_OF_RANGE;
    private static final int MANY = AdBreaks.TOO_MANY;
    private static final int DEEP = AdBreaks.TOO_DEEP;

    public static void main(String[] args) {
        newObject();
        append();
        load();
        errorOffset();
        tokens();
        syntaxErrors();
        rangeErrors();
        tooMany();
        tooDeep();
        firstError();
        Check.finish("SetupTest");
    }

    private static void newObject() {
        AdBreaks radio = new AdBreaks();
        Check.same("1 breaks", radio.breaks(), 0);
        Check.same("1 sponsors", radio.sponsors(), 0);
        Check.same("1 income", radio.income(), 0);
        Check.same("1 owed", radio.owed(), 0);
        Check.same("1 errorOffset", radio.errorOffset(), -1);
        Check.same("1 isBanned", radio.isBanned(0, 0), false);
        Check.same("1 arrangements", radio.arrangements(0), 1);
        Check.same("1 checksum", radio.checksum(), 0);
        Check.same("1 undo", radio.undo(), -1);
        Check.badArgument("1 load(1) of the empty buffer", () -> radio.load(1));
        Check.same("1 append to the empty buffer", radio.append(0, 0, 0, 0, 0), 20);
        Check.same("1 constants", AdBreaks.SYNTAX_ERROR, -2);
        Check.same("1 constants", AdBreaks.OUT_OF_RANGE, -3);
        Check.same("1 constants", AdBreaks.TOO_MANY, -4);
        Check.same("1 constants", AdBreaks.TOO_DEEP, -5);
    }

    private static void append() {
        AdBreaks radio = new AdBreaks();
        for (int call = 1; call <= 40; call++) {
            Check.same("2 append " + call, radio.append(-1, -1, -1, -1, -1), 20 * call);
        }
        Check.same("2 append beyond 800", radio.append(0, 0, 0, 0, 0), -1);
        Check.same("2 append beyond 800 again", radio.append(0, 0, 0, 0, 0), -1);
        Check.badArgument("2 the buffer is not longer", () -> radio.load(801));
        Check.same("2 the buffer is not shorter", radio.load(800), SYNTAX);
        Check.same("2 append after load", radio.append(0, 0, 0, 0, 0), 20);

        AdBreaks order = new AdBreaks();
        order.append(0x72616469, 0x6f3b7370, 0x6f6e736f, 0x72203320, 0x343b2020);
        Check.same("2 the most significant byte first", order.load(20), 0);
        Check.same("2 category", order.sponsor(0, 0), 3);
        Check.same("2 cap", order.sponsor(0, 1), 4);

        StringBuilder longest = new StringBuilder("radio;");
        while (longest.length() < 799) {
            longest.append(' ');
        }
        Check.same("2 a text of 800 bytes", Check.load(order, longest + "x"), SYNTAX);
        Check.same("2 its last byte counts", order.errorOffset(), 799);
    }

    private static void load() {
        cut("radio;price 99999;", 16, SYNTAX, 16);
        cut("radio;price 9999;", 17, 0, -1);
        cut("radiox", 5, SYNTAX, 5);
        cut("radio;x", 6, 0, -1);
        cut("radio;", 5, SYNTAX, 5);
        String full = "radio;" + " ".repeat(781) + "price 9999999";
        cut(full, 800, RANGE, 793);
        cut(full.replace("9999999", "1*2+3/4"), 800, SYNTAX, 800);
        cut(full.replace("9999999", "seconds"), 800, SYNTAX, 800);
        cut(full.replace("9999999", "seconds").replace("  price", "price") + ";", 800, 0, -1);
        AdBreaks radio = Check.loaded("radio;break 3 4 50 6;break 1 2 30 4;sponsor 7 8;ban 1 2;price 5;");
        Check.same("3 breaks", radio.breaks(), 2);
        Check.same("3 the earlier day first", radio.breakOf(0, 0), 1);
        radio.book(0, 10, 0);
        radio.book(0, 10, 1);
        radio.cancel(0);
        Check.same("3 income", radio.income(), 10);
        Check.badArgument("3 negative length", () -> radio.load(-1));
        Check.append(radio, "radio;");
        Check.badArgument("3 length beyond the buffer", () -> radio.load(21));
        Check.same("3 a throwing load keeps the buffer", radio.append(0, 0, 0, 0, 0), 40);
        Check.same("3 a throwing load is no change", radio.breaks(), 2);
        Check.same("3 only the first bytes are read", radio.load(6), 0);
        Check.same("3 all data are replaced: breaks", radio.breaks(), 0);
        Check.same("3 sponsors", radio.sponsors(), 0);
        Check.same("3 bans", radio.isBanned(1, 2), false);
        Check.same("3 income", radio.income(), 0);
        Check.same("3 owed spots", radio.owed(), 0);
        Check.badArgument("3 the buffer is empty then", () -> radio.load(1));
        Check.same("3 empty text", radio.load(0), SYNTAX);
        Check.same("3 empty text at", radio.errorOffset(), 0);

        long before = Check.loaded("radio;sponsor 1 1;").checksum();
        AdBreaks kept = Check.loaded("radio;sponsor 1 1;");
        Check.same("3 error", Check.load(kept, "radio;break 0 0 10 0;sponsor 2 2;sponsor 3 3;ban 1 1;price;"), SYNTAX);
        Check.same("3 an error leaves breaks", kept.breaks(), 0);
        Check.same("3 an error leaves sponsors", kept.sponsors(), 1);
        Check.same("3 an error leaves bans", kept.isBanned(1, 1), false);
        Check.same("3 an error leaves the checksum", kept.checksum(), before);
        Check.badArgument("3 an error empties the buffer", () -> kept.load(1));
        Check.same("3 an error is no change", kept.undo(), 0);

        Check.load(radio, "radio;break 0 0 10 100;sponsor 0 1;");
        Check.same("3 the price statement is gone too", radio.price(0, 10, 0), 100);
    }

    /** Only the first bytes of the text are read. */
    private static void cut(String text, int length, int due, int offset) {
        AdBreaks radio = new AdBreaks();
        Check.append(radio, text);
        String told = "\"" + text.replaceAll(" +", " ") + "\" up to " + length;
        Check.same("3 load " + told, radio.load(length), due);
        Check.same("4 errorOffset " + told, radio.errorOffset(), offset);
    }

    private static void errorOffset() {
        AdBreaks radio = new AdBreaks();
        Check.same("4 at first", radio.errorOffset(), -1);
        Check.load(radio, "radio;x");
        Check.same("4 after an error", radio.errorOffset(), 6);
        Check.badArgument("4 a load that throws", () -> radio.load(1));
        Check.same("4 does not count", radio.errorOffset(), 6);
        Check.load(radio, "radio;");
        Check.same("4 after a success", radio.errorOffset(), -1);
        Check.load(radio, "radi");
        radio.undo();
        Check.same("4 undo does not touch it", radio.errorOffset(), 0);
    }

    private static void tokens() {
        Check.good("radio;", 0);
        Check.good("  radio  ;  ", 0);
        Check.good("radio;break0 1 20 3;", 1);
        Check.good("radio;break 0 1 20 3;ban1 2;sponsor 1 2;price2;", 1);
        Check.good("radio;price(2)*audience/(hour);", 0);
        Check.good("radio;break 0000 001 0000000000000000000000020 000999;", 1);
        Check.good("radio;price 1+2-3*4/5+audience-hour*seconds/used+spots;", 0);
        Check.good("radio;price ( ( ( ( 1 ) ) ) ) + ( ( ( ( 2 ) ) ) ) ;", 0);
        Check.good("radio;sponsor 9 9;ban 0 9;break 6 23 300 999;ban 9 0;price 9999;break 0 0 10 0;", 2);
        Check.good("radio;break 0 5 10 0;break 5 0 10 0;break 0 4 10 0;", 3);
    }

    private static void syntaxErrors() {
        Check.bad("", SYNTAX, 0);
        Check.bad("   ", SYNTAX, 3);
        Check.bad("radio", SYNTAX, 5);
        Check.bad("radio  ", SYNTAX, 7);
        Check.bad("radioradio;", SYNTAX, 0);
        Check.bad("Radio;", SYNTAX, 0);
        Check.bad("xadio;", SYNTAX, 0);
        Check.bad("radioz;", SYNTAX, 0);
        Check.bad("rad io;", SYNTAX, 0);
        Check.bad(" radios;", SYNTAX, 1);
        Check.bad("radio;;", SYNTAX, 6);
        Check.bad("radio;\n", SYNTAX, 6);
        Check.bad("radio\t;", SYNTAX, 5);
        Check.bad("radio;\u00ff", SYNTAX, 6);
        Check.bad("radio;\u00f2adio;", SYNTAX, 6);
        Check.bad("radio;break", SYNTAX, 11);
        Check.bad("radio;breaks 0 0 10 0;", SYNTAX, 6);
        Check.bad("radio;radio;", SYNTAX, 6);
        Check.bad("radio;7;", SYNTAX, 6);
        Check.bad("radio;break 0 0 10;", SYNTAX, 18);
        Check.bad("radio;break 0 0 10 0", SYNTAX, 20);
        Check.bad("radio;break 0 0 10 0 5;", SYNTAX, 21);
        Check.bad("radio;break 0,0 10 0;", SYNTAX, 13);
        Check.bad("radio;break -1 0 10 0;", SYNTAX, 12);
        Check.bad("radio;break 0x 0 10 0;", SYNTAX, 13);
        Check.bad("radio;sponsor 1;", SYNTAX, 15);
        Check.bad("radio;sponsor 1 1 1;", SYNTAX, 18);
        Check.bad("radio;ban 1;", SYNTAX, 11);
        Check.bad("radio;ban 1 one;", SYNTAX, 12);
        Check.bad("radio;price;", SYNTAX, 11);
        Check.bad("radio;price -1;", SYNTAX, 12);
        Check.bad("radio;price 1+;", SYNTAX, 14);
        Check.bad("radio;price 1 2;", SYNTAX, 14);
        Check.bad("radio;price 1(2);", SYNTAX, 13);
        Check.bad("radio;price ();", SYNTAX, 13);
        Check.bad("radio;price (1;", SYNTAX, 14);
        Check.bad("radio;price 1);", SYNTAX, 13);
        Check.bad("radio;price (1", SYNTAX, 14);
        Check.bad("radio;price 1*/2;", SYNTAX, 14);
        Check.bad("radio;price 1%2;", SYNTAX, 13);
        Check.bad("radio;price hours;", SYNTAX, 12);
        Check.bad("radio;price audience hour;", SYNTAX, 21);
        Check.bad("radio;price day;", SYNTAX, 12);
        Check.bad("radio;price 1;break 0 0 10 0;price 1;", SYNTAX, 29);
        Check.bad("radio;price 1;pricex", SYNTAX, 14);
    }

    private static void rangeErrors() {
        Check.bad("radio;break 7 0 10 0;", RANGE, 12);
        Check.bad("radio;break 0 24 10 0;", RANGE, 14);
        Check.bad("radio;break 0 0 9 0;", RANGE, 16);
        Check.bad("radio;break 0 0 301 0;", RANGE, 16);
        Check.bad("radio;break 0 0 10 1000;", RANGE, 19);
        Check.bad("radio;break  007 0 10 0;", RANGE, 13);
        Check.bad("radio;break 4294967296 0 10 0;", RANGE, 12);
        Check.bad("radio;break 18446744073709551616000 0 10 0;", RANGE, 12);
        Check.bad("radio;break 0 0 4294967306 0;", RANGE, 16);
        Check.bad("radio;break 2 5 10 0;break 1 5 10 0;break 2 05 9 0;", RANGE, 44);
        Check.bad("radio;break 2 5 10 0;break 2 5", RANGE, 29);
        Check.bad("radio;sponsor 10 1;", RANGE, 14);
        Check.bad("radio;sponsor 0 0;", RANGE, 16);
        Check.bad("radio;sponsor 0 10;", RANGE, 16);
        Check.bad("radio;ban 10 0;", RANGE, 10);
        Check.bad("radio;ban 0 10;", RANGE, 12);
        Check.bad("radio;price 10000;", RANGE, 12);
        Check.bad("radio;price 1+99999999999999999999;", RANGE, 14);
    }

    private static void tooMany() {
        StringBuilder breaks = new StringBuilder("radio;");
        for (int hour = 0; hour < 20; hour++) {
            breaks.append("break 0 ").append(hour).append(" 10 0;");
        }
        Check.good(breaks.toString(), 20);
        Check.bad(breaks + " break 9", MANY, breaks.length() + 1);
        Check.bad(breaks + "break 0 0 10 0;", MANY, breaks.length());
        Check.bad(breaks + "breaks", SYNTAX, breaks.length());

        String sponsors = "radio;" + "sponsor 0 1;".repeat(8);
        Check.good(sponsors, 0);
        Check.bad(sponsors + "sponsor", MANY, sponsors.length());
        Check.bad(sponsors + " sponsor 0 1;", MANY, sponsors.length() + 1);

        String bans = "radio;" + "ban 1 2;".repeat(5) + "ban 2 1;".repeat(5);
        Check.good(bans, 0);
        Check.bad(bans + "ban 1 2;", MANY, bans.length());
        Check.bad(bans + "ban x", MANY, bans.length());

        AdBreaks again = Check.loaded(bans);
        Check.same("3 the numbers start again with each load", Check.load(again, bans), 0);
        Check.same("3 a price can be told again in another text", Check.load(again, "radio;price 1;"), 0);
        Check.same("3 a price can be told again in another text", Check.load(again, "radio;price 1;"), 0);
    }

    private static void tooDeep() {
        Check.bad("radio;price (((((1)))));", DEEP, 16);
        Check.bad("radio;price 1+((((2*(", DEEP, 20);
        Check.bad("radio;price ((((1(", SYNTAX, 17);
        Check.bad("radio;price ((((1))))(", SYNTAX, 21);
        Check.good("radio;price ((((1))+((2))));", 0);
    }

    private static void firstError() {
        Check.bad("radio;break 7 x", RANGE, 12);
        Check.bad("radio;break x 24 9", SYNTAX, 12);
        Check.bad("radio;break 0 24 9 1000;x", RANGE, 14);
        Check.bad("radio;price 10000+(((((", RANGE, 12);
        Check.bad("radio;price (((((10000", DEEP, 16);
    }
}

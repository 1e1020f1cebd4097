/** Boundary cases of promises 1 to 4: a new object, the input buffer, and the setup text with its limits and errors. */
final class SetupBounds {
    private static final int SYNTAX = AdBreaks.SYNTAX_ERROR;
    private static final int RANGE = AdBreaks.OUT_OF_RANGE;
    private static final int MANY = AdBreaks.TOO_MANY;
    private static final int DEEP = AdBreaks.TOO_DEEP;
    private static final String BUSY = "radio;price 7;break 3 4 50 6;break 1 2 30 4;sponsor 7 8;sponsor 6 5;ban 1 2;";

    private SetupBounds() {
    }

    static void run() {
        newObject();
        calls();
        append();
        load();
        loadThatFails();
        loadThatThrows();
        errorOffset();
        breakLimits();
        breaksOfOneHour();
        sponsorLimits();
        banLimits();
        buffer();
        grammarOfSetup();
        grammarOfStatements();
        grammarOfPrices();
        numbersAndWords();
        spaces();
        otherBytes();
        meaningOfNumbers();
        priceLimits();
        firstError();
        sameOffset();
        syntaxErrors();
        rangeErrors();
        tooMany();
        tooDeep();
        constants();
    }

    private static void newObject() {
        Sentences.name(1, "Creates an object without breaks, with an empty input buffer.");
        AdBreaks other = Check.loaded(BUSY);
        Check.append(other, "radio;");
        AdBreaks radio = new AdBreaks();
        Check.same("breaks", radio.breaks(), 0);
        Check.outOfBounds("break 0", () -> radio.breakOf(0, 0));
        Check.badArgument("load(1)", () -> radio.load(1));
        Check.same("append", radio.append(0, 0, 0, 0, 0), 20);
        Check.same("load(0)", new AdBreaks().load(0), SYNTAX);

        Sentences.name(1, "Before the first successful load there are no breaks, sponsors and bans.");
        AdBreaks none = new AdBreaks();
        noData("at first", none);
        Check.load(none, BUSY + "x");
        noData("after a load with an error", none);
        Check.same("makeGood", none.makeGood(), 0);
        noData("after a change", none);
    }

    private static void noData(String when, AdBreaks radio) {
        Check.same(when + ": breaks", radio.breaks(), 0);
        Check.same(when + ": sponsors", radio.sponsors(), 0);
        for (int pair = 0; pair < 100; pair++) {
            Check.same(when + ": isBanned(" + pair / 10 + ", " + pair % 10 + ")", radio.isBanned(pair / 10, pair % 10), false);
        }
        Check.outOfBounds(when + ": sponsor 0", () -> radio.sponsor(0, 0));
        Check.badState(when + ": air", () -> radio.air());
        Check.same(when + ": income", radio.income(), 0);
        Check.same(when + ": checksum", radio.checksum(), 0);
    }

    private static void calls() {
        Sentences.name(1, "An object is used for at most 512 calls after it has been made; what later calls answer is free.");
        AdBreaks radio = new AdBreaks();
        // 2 + 1 calls here, then 508, and the last one.
        Check.same("load", Check.load(radio, "radio;sponsor 0 9;"), 0);
        radio.append(-1, -1, -1, -1, -1);
        for (int call = 0; call < 508; call++) {
            Check.same("call " + (call + 4), radio.setCap(0, call % 9 + 1), call == 0 ? 9 : (call - 1) % 9 + 1);
        }
        Check.same("the last call", radio.undo(), 7);

        AdBreaks thrown = new AdBreaks();
        for (int call = 0; call < 511; call++) {
            Check.badArgument("call " + call, () -> thrown.load(1));
        }
        Check.same("the last call", thrown.append(0, 0, 0, 0, 0), 20);
    }

    private static void append() {
        Sentences.name(2, "Appends 20 bytes to the input buffer: the 4 bytes of each argument, the most significant byte first.");
        AdBreaks radio = new AdBreaks();
        radio.append(0x20207261, 0x64696f3b, 0x73706f6e, 0x736f7220, 0x33203420);
        radio.append(0x3b626120, 0, 0, 0, 0);
        Check.same("the 20 bytes in their order, up to the last one", radio.load(21), 0);
        Check.same("category", radio.sponsor(0, 0), 3);
        Check.same("cap", radio.sponsor(0, 1), 4);
        for (int high : new int[] {0x80, 0xff, 0xf2}) {
            radio.append(0x72616469, 0x6f3b0000 | high << 8 | 0x20, 0, 0, 0);
            Check.same("the byte " + high, radio.load(8), SYNTAX);
            Check.same("the byte " + high + " at", radio.errorOffset(), 6);
        }
        radio.append(0xf2616469, 0x6f3b2020, 0, 0, 0);
        Check.same("a byte is not cut to 7 bits", radio.load(6), SYNTAX);
        Check.same("a byte is not cut to 7 bits, at", radio.errorOffset(), 0);

        Sentences.name(2, "Returns the new length of the buffer; -1 if it would exceed 800 bytes, and the buffer is unchanged then.");
        AdBreaks full = new AdBreaks();
        String text = spaced("radio;sponsor 1 2;", 800);
        for (int call = 1; call <= 40; call++) {
            Check.same("call " + call, appendPart(full, text, 20 * call - 20), 20 * call);
        }
        Check.same("beyond 800", full.append(-1, -1, -1, -1, -1), -1);
        Check.same("beyond 800 again", full.append(0, 0, 0, 0, 0), -1);
        Check.badArgument("it is not longer", () -> full.load(801));
        Check.same("it has its bytes", full.load(800), 0);
        Check.same("its sponsor", full.sponsor(0, 1), 2);
        Check.same("empty again", full.append(-1, -1, -1, -1, -1), 20);
    }

    private static int appendPart(AdBreaks radio, String text, int at) {
        return radio.append(Check.word(text, at), Check.word(text, at + 4), Check.word(text, at + 8),
            Check.word(text, at + 12), Check.word(text, at + 16));
    }

    /** Spaces before the last byte, so that the text has this length. */
    private static String spaced(String text, int length) {
        int last = text.length() - 1;
        return text.substring(0, last) + " ".repeat(length - text.length()) + text.substring(last);
    }

    private static AdBreaks busy() {
        AdBreaks radio = Check.loaded(BUSY);
        radio.book(0, 10, 0);
        radio.book(0, 10, 1);
        radio.book(1, 10, 1);
        radio.cancel(0);
        radio.air();
        return radio;
    }

    private static void load() {
        Sentences.name(3, "Reads the first bytes of the input buffer as a setup text and replaces all data by it.");
        AdBreaks radio = busy();
        Check.append(radio, "radio;break 3 4 50 6;sponsor 7 8;ban 3 3;");
        Check.same("the first bytes alone", radio.load(33), 1);
        Check.same("a new break is open", radio.breakOf(0, 4), 0);
        Check.same("a new break has no spots", radio.breakOf(0, 5), 0);
        Check.same("sponsors", radio.sponsors(), 1);
        Check.same("its spots", radio.sponsor(0, 2) + radio.sponsor(0, 3) + radio.sponsor(0, 4), 0);
        Check.same("bans", radio.isBanned(1, 2) || radio.isBanned(3, 3), false);
        Check.same("the price statement", radio.price(0, 10, 0), 6);
        Check.same("income", radio.income(), 0);
        Check.same("owed spots", radio.owed(), 0);

        Sentences.name(3, "The input buffer is empty afterwards, also if the text has an error.");
        AdBreaks good = new AdBreaks();
        Check.append(good, "radio;radio;");
        Check.same("load", good.load(6), 0);
        Check.badArgument("empty", () -> good.load(1));
        Check.same("append", good.append(0, 0, 0, 0, 0), 20);
        Check.same("an error", good.load(3), SYNTAX);
        Check.badArgument("empty after an error", () -> good.load(1));
        Check.same("append after an error", good.append(0, 0, 0, 0, 0), 20);
        Check.same("an error of no bytes", good.load(0), SYNTAX);
        Check.badArgument("empty after it", () -> good.load(1));

        Sentences.name(3, "An empty text has a SYNTAX_ERROR.");
        Check.bad("", SYNTAX, 0);
        AdBreaks unread = new AdBreaks();
        Check.append(unread, "radio;");
        Check.same("the empty part of a buffer", unread.load(0), SYNTAX);
        Check.same("at", unread.errorOffset(), 0);
    }

    private static void loadThatFails() {
        Sentences.name(3, "An error leaves all other data unchanged.");
        String[] errors = {"", "x", "radio;break 0 0 10 0;sponsor 1 1;ban 3 3;price 8;x", "radio;break 0 0 10 0;break 0 0 10 0;",
            "radio;" + "sponsor 2 2;".repeat(9), "radio;price (((((1", Check.full() + "price 1"};
        AdBreaks radio = busy();
        String before = Check.picture(radio);
        for (String text : errors) {
            Check.same("load \"" + text + "\" fails", Check.load(radio, text) < 0, true);
            Check.samePicture("load \"" + text + "\"", radio, before);
        }
        Check.same("no change to undo", radio.undo(), 5);

        Sentences.name(3, "Returns the number of breaks; or the error code of the first error.");
        Check.good("radio;", 0);
        Check.good("radio;break 0 0 10 0;", 1);
        Check.good(Check.full(), 20);
        Check.bad("radio;break 7 0 10 0;x", RANGE, 12);
        Check.bad("radio;x;break 7 0 10 0;", SYNTAX, 6);
    }

    private static void loadThatThrows() {
        Sentences.name(3, "- `length`: the number of bytes to read");
        AdBreaks radio = new AdBreaks();
        Check.append(radio, "radio;ban 1 1;");
        Check.same("5 of the bytes", radio.load(5), SYNTAX);
        Check.same("5 of the bytes, at", radio.errorOffset(), 5);
        Check.append(radio, "radio;ban 1 1;");
        Check.same("all bytes", radio.load(20), 0);
        Check.same("its ban", radio.isBanned(1, 1), true);

        Sentences.name(3, "Throws `IllegalArgumentException` if length is negative or greater than the length of the buffer;"
            + " the buffer is unchanged then");
        AdBreaks empty = new AdBreaks();
        Check.badArgument("1 of none", () -> empty.load(1));
        Check.badArgument("-1 of none", () -> empty.load(-1));
        Check.append(empty, "radio;sponsor 1 2;");
        for (int length : new int[] {-1, 21, 801, Integer.MIN_VALUE, Integer.MAX_VALUE}) {
            Check.badArgument("load(" + length + ") of 20", () -> empty.load(length));
        }
        Check.same("it has as many bytes as before", empty.append(0, 0, 0, 0, 0), 40);
        Check.badArgument("load(41) of 40", () -> empty.load(41));
        Check.same("it has the bytes of before", empty.load(18), 0);
        Check.same("its sponsor", empty.sponsors(), 1);
    }

    private static void errorOffset() {
        Sentences.name(4, "Returns the offset of the error found by the latest call of load that did not throw;"
            + " -1 if it found none or if there was no such call.");
        AdBreaks radio = new AdBreaks();
        Check.same("no such call", radio.errorOffset(), -1);
        Check.badArgument("load(1)", () -> radio.load(1));
        Check.same("none but one that throws", radio.errorOffset(), -1);
        Check.load(radio, "x");
        Check.same("the first byte", radio.errorOffset(), 0);
        Check.badArgument("load(-1)", () -> radio.load(-1));
        Check.same("the latest that did not throw", radio.errorOffset(), 0);
        Check.same("a full text that ends too early", Check.load(radio, spaced("radio;price 1", 800)), SYNTAX);
        Check.same("its end", radio.errorOffset(), 800);
        Check.load(radio, "radio;y");
        Check.same("the latest one", radio.errorOffset(), 6);
        radio.makeGood();
        Check.same("other calls do not touch it", radio.errorOffset(), 6);
        Check.load(radio, "radio;");
        Check.same("it found none", radio.errorOffset(), -1);
    }

    private static void breakLimits() {
        Sentences.name(3, "A break has a day (0 to 6), an hour (0 to 23), seconds (10 to 300) and an audience (0 to 999);");
        String[] sound = {"0 0 10 0", "6 0 10 0", "0 23 10 0", "0 0 300 0", "0 0 10 999", "6 23 300 999"};
        for (String numbers : sound) {
            Check.good("radio;break " + numbers + ";", 1);
        }
        Check.bad("radio;break 7 0 10 0;", RANGE, 12);
        Check.bad("radio;break 0 24 10 0;", RANGE, 14);
        Check.bad("radio;break 0 0 9 0;", RANGE, 16);
        Check.bad("radio;break 0 0 0 0;", RANGE, 16);
        Check.bad("radio;break 0 0 301 0;", RANGE, 16);
        Check.bad("radio;break 0 0 10 1000;", RANGE, 19);
        AdBreaks radio = Check.loaded("radio;break 6 23 300 999;break 0 0 10 0;");
        int[][] due = {{0, 0, 10, 0}, {6, 23, 300, 999}};
        for (int index = 0; index < 2; index++) {
            for (int what = 0; what < 4; what++) {
                Check.same("breakOf(" + index + ", " + what + ")", radio.breakOf(index, what), due[index][what]);
            }
        }

        Sentences.name(3, "There are at most 20 breaks.");
        String twenty = Check.full();
        Check.good(twenty, 20);
        Check.bad(twenty + "break 6 2 300 0;", MANY, twenty.length());
        Check.bad(twenty.replaceFirst("break 0 0 300 0;", "") + "break 6 2 300 0;break 6 3 300 0;", MANY, twenty.length());
    }

    private static void breaksOfOneHour() {
        Sentences.name(3, "no two breaks have the same day and hour.");
        Check.bad("radio;break 2 5 10 0;break 2 5 20 1;", RANGE, 29);
        Check.bad("radio;break 0 0 10 0;break 0 0 10 0;", RANGE, 29);
        Check.bad("radio;break 6 23 10 0;break 0 1 10 0;break 6 023 10 0;", RANGE, 45);
        Check.good("radio;break 2 5 10 0;break 2 6 10 0;break 3 5 10 0;break 5 2 10 0;", 4);
        Check.good("radio;break 0 23 10 0;break 1 0 10 0;", 2);
        Check.good("radio;break 1 1 10 0;break 0 11 10 0;break 1 11 10 0;", 3);
        AdBreaks again = Check.loaded("radio;break 2 5 10 0;");
        Check.same("in another text", Check.load(again, "radio;break 2 5 10 0;"), 1);
    }

    private static void sponsorLimits() {
        Sentences.name(3, "There are at most 8 sponsors, with indexes from 0.");
        String eight = "radio;";
        for (int k = 0; k < 8; k++) {
            eight += "sponsor " + (9 - k) + " " + (k + 1) + ";";
        }
        AdBreaks radio = Check.loaded(eight);
        Check.same("sponsors", radio.sponsors(), 8);
        for (int k = 0; k < 8; k++) {
            Check.same("category of " + k, radio.sponsor(k, 0), 9 - k);
            Check.same("cap of " + k, radio.sponsor(k, 1), k + 1);
        }
        Check.bad(eight + "sponsor 0 1;", MANY, eight.length());

        Sentences.name(3, "A sponsor has a category (0 to 9) and a cap (1 to 9):");
        Check.good("radio;sponsor 0 1;sponsor 9 9;", 0);
        Check.bad("radio;sponsor 10 1;", RANGE, 14);
        Check.bad("radio;sponsor 0 0;", RANGE, 16);
        Check.bad("radio;sponsor 0 10;", RANGE, 16);
    }

    private static void banLimits() {
        Sentences.name(3, "There are at most 10 bans.");
        String ten = "radio;";
        for (int k = 0; k < 10; k++) {
            ten += "ban " + k + " " + (9 - k) + ";";
        }
        AdBreaks radio = Check.loaded(ten);
        for (int pair = 0; pair < 100; pair++) {
            Check.same("isBanned(" + pair / 10 + ", " + pair % 10 + ")", radio.isBanned(pair / 10, pair % 10), pair / 10 + pair % 10 == 9);
        }
        Check.bad(ten + "ban 0 0;", MANY, ten.length());

        Sentences.name(3, "A ban has two categories (possibly the same):");
        AdBreaks same = Check.loaded("radio;ban 0 0;ban 9 9;ban 0 9;");
        Check.same("0 and 0", same.isBanned(0, 0), true);
        Check.same("9 and 9", same.isBanned(9, 9), true);
        Check.same("9 and 0", same.isBanned(9, 0), true);
        Check.same("8 and 9", same.isBanned(8, 9), false);
        Check.bad("radio;ban 10 0;", RANGE, 10);
        Check.bad("radio;ban 0 10;", RANGE, 12);
    }

    private static void buffer() {
        Sentences.name(3, "The setup text is read from an input buffer of at most 800 bytes. Its grammar is:");
        Check.good(spaced("radio;", 800), 0);
        Check.good(spaced("radio;break 1 2 30 4;", 800), 1);
        Check.good("radio;price 1" + "+1".repeat(393) + ";", 0);
        Check.bad("radio;price 1" + "+1".repeat(393) + "+", SYNTAX, 800);
        AdBreaks radio = Check.loaded(" radio;price 1" + "*1+1".repeat(185) + ";break 0 0 10 0;sponsor 0 1;");
        Check.same("a long price statement", radio.price(0, 5, 0), 186);
    }

    private static void grammarOfSetup() {
        Sentences.name(3, "  setup     = \"radio\" \";\" { statement \";\" }");
        Check.good("radio;", 0);
        Check.good("radio;ban 1 1;", 0);
        Check.good("radio;ban 1 1;ban 1 1;price 1;sponsor 1 1;break 1 1 11 1;", 1);
        Check.bad(";", SYNTAX, 0);
        Check.bad("ban 1 1;", SYNTAX, 0);
        Check.bad("radio", SYNTAX, 5);
        Check.bad("radio ban 1 1;", SYNTAX, 6);
        Check.bad("radio;;", SYNTAX, 6);
        Check.bad("radio;ban 1 1", SYNTAX, 13);
        Check.bad("radio;ban 1 1;;", SYNTAX, 14);
        Check.bad("radio;ban 1 1 ban 1 1;", SYNTAX, 14);
        Check.bad("radio;radio;", SYNTAX, 6);
    }

    private static void grammarOfStatements() {
        Sentences.name(3, "  statement = \"break\" number number number number | \"sponsor\" number number | \"ban\" number number"
            + " | \"price\" sum");
        String[] sound = {"break 1 1 11 1", "sponsor 1 1", "ban 1 1"};
        for (String statement : sound) {
            String text = "radio;" + statement;
            Check.good(text + ";", statement.startsWith("break") ? 1 : 0);
            Check.bad(text + " 1;", SYNTAX, text.length() + 1);
            Check.bad(text + "+1;", SYNTAX, text.length());
            Check.bad(text + "ban;", SYNTAX, text.length());
            for (int at = text.lastIndexOf(' '); at > 6; at = text.lastIndexOf(' ', at - 1)) {
                Check.bad(text.substring(0, at) + ";", SYNTAX, at);
                Check.bad(text.substring(0, at), SYNTAX, at);
                Check.bad(text.substring(0, at) + " hour;", SYNTAX, at + 1);
                Check.bad(text.substring(0, at) + " -1;", SYNTAX, at + 1);
                Check.bad(text.substring(0, at) + "(1);", SYNTAX, at);
            }
        }
        Check.good("radio;price 1;", 0);
        Check.bad("radio;price;", SYNTAX, 11);
        Check.bad("radio;price", SYNTAX, 11);
        Check.bad("radio;price 1 1;", SYNTAX, 14);
    }

    private static void grammarOfPrices() {
        Sentences.name(3, "  sum       = term { ( \"+\" | \"-\" ) term }");
        Check.good("radio;price 1+2-3+4*5-6/7;", 0);
        Check.bad("radio;price +1;", SYNTAX, 12);
        Check.bad("radio;price -1;", SYNTAX, 12);
        Check.bad("radio;price 1+;", SYNTAX, 14);
        Check.bad("radio;price 1-", SYNTAX, 14);
        Check.bad("radio;price 1+-1;", SYNTAX, 14);
        Check.bad("radio;price 1--1;", SYNTAX, 14);

        Sentences.name(3, "  term      = factor { ( \"*\" | \"/\" ) factor }");
        Check.good("radio;price 1*2/3*4;", 0);
        Check.bad("radio;price *1;", SYNTAX, 12);
        Check.bad("radio;price 1*;", SYNTAX, 14);
        Check.bad("radio;price 1/", SYNTAX, 14);
        Check.bad("radio;price 1*/1;", SYNTAX, 14);
        Check.bad("radio;price 1*-1;", SYNTAX, 14);
        Check.bad("radio;price 1+*1;", SYNTAX, 14);

        Sentences.name(3, "  factor    = number | \"audience\" | \"hour\" | \"seconds\" | \"used\" | \"spots\" | \"(\" sum \")\"");
        String[] sound = {"1", "audience", "hour", "seconds", "used", "spots", "(1)", "(1+2*3-hour)", "((1))*(2)"};
        for (String factor : sound) {
            Check.good("radio;price " + factor + ";", 0);
        }
        String[] words = {"day", "index", "sponsor", "break", "price", "radio", "second", "spot", "audiences", "audienc", "hours", "use"};
        for (String word : words) {
            Check.bad("radio;price " + word + ";", SYNTAX, 12);
        }
        Check.bad("radio;price ();", SYNTAX, 13);
        Check.bad("radio;price (1;", SYNTAX, 14);
        Check.bad("radio;price (1", SYNTAX, 14);
        Check.bad("radio;price (", SYNTAX, 13);
        Check.bad("radio;price 1);", SYNTAX, 13);
        Check.bad("radio;price );", SYNTAX, 12);
        Check.bad("radio;price (1));", SYNTAX, 15);
        Check.bad("radio;price (1)(1);", SYNTAX, 15);
        Check.bad("radio;price 1(1);", SYNTAX, 13);
        Check.bad("radio;price (1+);", SYNTAX, 15);
        Check.bad("radio;price hour hour;", SYNTAX, 17);
    }

    private static void numbersAndWords() {
        Sentences.name(3, "A number is a run of decimal digits, of any length (leading zeros do not matter); a word is a run of the letters a to z.");
        String zeros = "0".repeat(400);
        AdBreaks radio = Check.loaded("radio;break " + zeros + "1 02 0030 00000000004;sponsor 007 0000000008;");
        int[] due = {1, 2, 30, 4};
        for (int what = 0; what < 4; what++) {
            Check.same("breakOf(0, " + what + ")", radio.breakOf(0, what), due[what]);
        }
        Check.same("category", radio.sponsor(0, 0), 7);
        Check.same("cap", radio.sponsor(0, 1), 8);
        Check.good("radio;break " + zeros + " 0 10 0;", 1);
        String[] long0 = {"9".repeat(700), "1" + zeros, "4294967296", "8589934592", "18446744073709551616", "10000000000000000000000000"};
        for (String number : long0) {
            Check.bad("radio;break " + number + " 0 10 0;", RANGE, 12);
        }
        Check.bad("radio;sponsor 4294967297 1;", RANGE, 14);
        Check.bad("radio;price 4294967306;", RANGE, 12);
        Check.bad("radio;price 2147483648;", RANGE, 12);

        Sentences.name(3, "Each run is as long as possible.");
        Check.bad("radioradio;", SYNTAX, 0);
        Check.bad("radio;banban 1 1;", SYNTAX, 6);
        Check.bad("radio;price hourhour;", SYNTAX, 12);
        Check.bad("radio;ban 11;", RANGE, 10);
        Check.bad("radio;ban 1 11;", RANGE, 12);
        Check.bad("radio;price 99999;", RANGE, 12);
    }

    private static void spaces() {
        Sentences.name(3, "Spaces (byte 32) may precede any token and may follow the last one; a word and a number side by side"
            + " need none between them.");
        Check.good("  radio  ;  break  1  2  30  4  ;  price  (  1  +  hour  )  *  2  -  3  /  4  ;  sponsor  1  1  ;  ban  1  1  ;  ", 1);
        Check.good("radio;break1 2 30 4;price(1+hour)*2-3/4;sponsor1 1;ban1 1;", 1);
        Check.good(" radio;", 0);
        Check.good("radio; ", 0);
        Check.good("radio ;", 0);
        Check.bad("ra dio;", SYNTAX, 0);
        Check.bad("radio;ban 1 1 ;  x", SYNTAX, 17);
        Check.bad("radio;price 1 0;", SYNTAX, 14);
        Check.bad("radio;price hour1;", SYNTAX, 16);
        Check.bad("radio;price 1hour;", SYNTAX, 13);
        Check.bad("radio;price 1break", SYNTAX, 13);
    }

    private static void otherBytes() {
        Sentences.name(3, "No other byte separates tokens.");
        for (int value = 0; value < 256; value++) {
            char sign = (char) value;
            boolean digit = sign >= '0' && sign <= '9';
            boolean letter = sign >= 'a' && sign <= 'z';
            if (value == ' ') {
                continue;
            }
            Check.bad(sign + "radio;", SYNTAX, 0);
            Check.bad("radio" + sign + ";", SYNTAX, letter ? 0 : value == ';' ? 6 : 5);
            Check.bad("radio;" + sign, SYNTAX, 6);
            Check.bad("radio;" + sign + "ban 1 1;", SYNTAX, 6);
            if (!digit) {
                Check.bad("radio;ban" + sign + "1 1;", SYNTAX, letter ? 6 : 9);
                Check.bad("radio;ban 1" + sign + "1;", SYNTAX, 11);
            }
        }
    }

    private static void meaningOfNumbers() {
        Sentences.name(3, "The numbers of break are the day, the hour, the seconds and the audience (breaks can be told in whatever order);");
        AdBreaks radio = Check.loaded("radio;break 6 4 15 16;break 3 3 13 14;break 3 2 11 12;break 0 23 10 9;");
        int[][] due = {{0, 23, 10, 9}, {3, 2, 11, 12}, {3, 3, 13, 14}, {6, 4, 15, 16}};
        for (int index = 0; index < 4; index++) {
            for (int what = 0; what < 4; what++) {
                Check.same("breakOf(" + index + ", " + what + ")", radio.breakOf(index, what), due[index][what]);
            }
        }

        Sentences.name(3, "those of sponsor the category and the cap;");
        AdBreaks one = Check.loaded("radio;sponsor 0 9;");
        Check.same("category", one.sponsor(0, 0), 0);
        Check.same("cap", one.sponsor(0, 1), 9);

        Sentences.name(3, "those of ban two categories (a ban can be told again, also in the other order; each one counts).");
        String ten = "radio;" + "ban 3 4;".repeat(5) + "ban 4 3;".repeat(5);
        AdBreaks ban = Check.loaded(ten);
        Check.same("3 and 4", ban.isBanned(3, 4), true);
        Check.same("4 and 3", ban.isBanned(4, 3), true);
        Check.bad(ten + "ban 3 4;", MANY, ten.length());
        Check.bad(ten + "ban 4 3;", MANY, ten.length());
    }

    private static void priceLimits() {
        Sentences.name(3, "A number as a factor is 0 to 9999.");
        Check.good("radio;price 0;", 0);
        Check.good("radio;price 9999;", 0);
        Check.bad("radio;price 10000;", RANGE, 12);
        Check.bad("radio;price 1+(2*10000);", RANGE, 17);

        Sentences.name(3, "Parentheses nest at most 4 deep.");
        Check.good("radio;price ((((1))));", 0);
        Check.good("radio;price ((((1))+((2))))*((((3))));", 0);
        Check.good("radio;price " + "(1)+".repeat(100) + "1;", 0);
        Check.bad("radio;price (((((1)))));", DEEP, 16);
        AdBreaks radio = Check.loaded("radio;price 1+2*(3+4*(5+6*(7+8*(9+2*3))));break 0 0 10 0;sponsor 0 1;");
        Check.same("its value", radio.price(0, 5, 0), 6143);

        Sentences.name(3, "The statement price may occur once.");
        Check.good("radio;price 1;", 0);
        Check.good("radio;ban 1 1;price 1;ban 1 1;", 0);
        Check.bad("radio;price 1;price 1;", SYNTAX, 14);
        AdBreaks again = Check.loaded("radio;price 1;break 0 0 10 0;sponsor 0 1;");
        Check.same("in another text", Check.load(again, "radio;price 2;break 0 0 10 0;sponsor 0 1;"), 1);
        Check.same("the other price", again.price(0, 5, 0), 2);
        Check.load(again, "radio;price 3;price 4;");
        Check.same("after one that failed", Check.load(again, "radio;price 5;break 0 0 10 0;sponsor 0 1;"), 1);
        Check.same("the price after it", again.price(0, 5, 0), 5);
    }

    private static void firstError() {
        Sentences.name(3, "The first error in the text is the one with the smallest offset.");
        Check.bad("radio;break 7 24 9 1000", RANGE, 12);
        Check.bad("radio;break 0 24 9 1000", RANGE, 14);
        Check.bad("radio;break 0 x 9 1000", SYNTAX, 14);
        Check.bad("radio;break 0 0 9 x", RANGE, 16);
        Check.bad("radio;sponsor 10 0;", RANGE, 14);
        Check.bad("radio;price 10000+(((((", RANGE, 12);
        Check.bad("radio;price (((((10000", DEEP, 16);
        Check.bad("radio;price (((((x", DEEP, 16);
        Check.bad("radio;price ((((x(", SYNTAX, 16);
        Check.bad("radio;price 1;price 10000;", SYNTAX, 14);
        Check.bad(Check.full() + "break 7 x", MANY, Check.full().length());
        Check.bad(Check.full() + "break 0 0 10 0;", MANY, Check.full().length());
        Check.bad("radio;break 7 0 10 0;" + "sponsor 0 1;".repeat(9), RANGE, 12);
        Check.bad("radio;" + "sponsor 0 1;".repeat(8) + "ban 0 99;sponsor 0 1;", RANGE, 108);
        Check.bad("radio;break 1 1 10 0;break 1 1 9 0;", RANGE, 29);
        Check.bad("radio;break 1 1 10 0;break 7 1 9 0;", RANGE, 27);
    }

    private static void sameOffset() {
        Sentences.name(3, "If several kinds of error have the same offset, the first one in this list counts:");
        Check.bad("radio;price ((((1(2", SYNTAX, 17);
        Check.bad("radio;price ((((hour(", SYNTAX, 20);
        Check.bad("radio;price ((((1)(", SYNTAX, 18);
        Check.bad("radio;ban 1 1 99999;", SYNTAX, 14);
        Check.bad("radio;price 1 10000;", SYNTAX, 14);
        Check.bad("radio;99999;", SYNTAX, 6);
        String ten = "radio;" + "ban 1 2;".repeat(10);
        Check.bad(ten + "sponsor 1 ban", SYNTAX, ten.length() + 10);
        Check.bad(ten + "bans", SYNTAX, ten.length());
        Check.bad(ten + "ban", MANY, ten.length());
        String eight = "radio;" + "sponsor 1 2;".repeat(8);
        Check.bad(eight + "price sponsor", SYNTAX, eight.length() + 6);
    }

    private static void syntaxErrors() {
        Sentences.name(3, "  - SYNTAX_ERROR: a token or byte that the grammar does not allow here, at its first byte;");
        Check.bad("radios;", SYNTAX, 0);
        Check.bad("xadio;", SYNTAX, 0);
        Check.bad("radix;", SYNTAX, 0);
        Check.bad("radio;xan 1 1;", SYNTAX, 6);
        Check.bad("radio;price xour;", SYNTAX, 12);
        Check.bad("radio;   breaks 1", SYNTAX, 9);
        Check.bad("radio;ban   hour", SYNTAX, 12);
        Check.bad("radio;ban 1   +", SYNTAX, 14);
        Check.bad("radio;ban 1 2   345;", SYNTAX, 16);
        Check.bad("radio;price 1   .5;", SYNTAX, 16);

        Sentences.name(3, "the end of the text, at its length, if the text ends too early;");
        String[] early = {"", " ", "radio", "radio ", "radio;ban", "radio;ban ", "radio;ban 1", "radio;ban 1 1", "radio;ban 1 1  ",
            "radio;break 0 0 10 ", "radio;sponsor", "radio;price", "radio;price 1", "radio;price 1*", "radio;price (", "radio;price (1 "};
        for (String text : early) {
            Check.bad(text, SYNTAX, text.length());
        }

        Sentences.name(3, "a second price, at its first letter.");
        Check.bad("radio;price 1;   price 2;", SYNTAX, 17);
        Check.bad("radio;price 1;ban 1 1;price", SYNTAX, 22);
    }

    private static void rangeErrors() {
        Sentences.name(3, "  - OUT_OF_RANGE: a number outside its range, at its first digit;");
        Check.bad("radio;break   0007 0 10 0;", RANGE, 14);
        Check.bad("radio;break 0   24", RANGE, 16);
        Check.bad("radio;break 0 0   9", RANGE, 18);
        Check.bad("radio;break 0 0 10   01000", RANGE, 21);
        Check.bad("radio;sponsor   10", RANGE, 16);
        Check.bad("radio;sponsor 0   0", RANGE, 18);
        Check.bad("radio;ban   10", RANGE, 12);
        Check.bad("radio;ban 0   10", RANGE, 14);
        Check.bad("radio;price   010000", RANGE, 14);

        Sentences.name(3, "the hour of a break if there is a break with this day and hour already.");
        Check.bad("radio;break 2 5 10 0;break 2   05", RANGE, 31);
        Check.bad("radio;break 2 0 10 0;break 2 0 x", RANGE, 29);
        Check.bad("radio;break 2 5 10 0;break 1 5 10 0;break 3 5 10 0;break 2 5 10 0;", RANGE, 59);
    }

    private static void tooMany() {
        Sentences.name(3, "  - TOO_MANY: a break, sponsor or ban beyond the maximum number, at the first letter of its statement.");
        String[] most = {Check.full(), "radio;" + "sponsor 0 1;".repeat(8), "radio;" + "ban 0 0;".repeat(10)};
        String[] words = {"break", "sponsor", "ban"};
        for (int k = 0; k < 3; k++) {
            String text = most[k] + "   ";
            Check.good(text, k == 0 ? 20 : 0);
            Check.bad(text + words[k], MANY, text.length());
            Check.bad(text + words[k] + ";", MANY, text.length());
            Check.bad(text + words[k] + " 1 1;", MANY, text.length());
            Check.bad(text + words[k] + " 99999;", MANY, text.length());
            Check.bad(text + "price 1; " + words[k] + " 6 2 10 0;", MANY, text.length() + 9);
        }
        AdBreaks again = Check.loaded(most[2]);
        Check.same("each text has its own number", Check.load(again, most[2]), 0);
        Check.load(again, most[2] + "ban");
        Check.same("after one that failed", Check.load(again, most[2]), 0);
    }

    private static void tooDeep() {
        Sentences.name(3, "  - TOO_DEEP: an opening parenthesis inside 4 others, at that parenthesis.");
        Check.bad("radio;price (((((", DEEP, 16);
        Check.bad("radio;price ((((   (1)))));", DEEP, 19);
        Check.bad("radio;price 1+(2*(3-(4/(5+hour*(6", DEEP, 31);
        Check.bad("radio;price ((((1)+(2)+((3)))))", DEEP, 24);
        Check.bad("radio;price ((((1))+(((2", DEEP, 22);
        Check.bad("radio;price ((((1)))+((((", DEEP, 24);
        Check.good("radio;price ((((1)))+(((2))));", 0);
    }

    private static void constants() {
        Sentences.name(3, "- `SYNTAX_ERROR = -2`: Error code of load: the text does not follow the grammar.");
        Check.same("SYNTAX_ERROR", AdBreaks.SYNTAX_ERROR, -2);
        Check.bad("radio;no", -2, 6);
        Sentences.name(3, "- `OUT_OF_RANGE = -3`: Error code of load: a number is not allowed.");
        Check.same("OUT_OF_RANGE", AdBreaks.OUT_OF_RANGE, -3);
        Check.bad("radio;ban 10 1;", -3, 10);
        Sentences.name(3, "- `TOO_MANY = -4`: Error code of load: too many breaks, sponsors or bans.");
        Check.same("TOO_MANY", AdBreaks.TOO_MANY, -4);
        Check.bad("radio;" + "ban 1 1;".repeat(11), -4, 86);
        Sentences.name(3, "- `TOO_DEEP = -5`: Error code of load: parentheses are nested too deeply.");
        Check.same("TOO_DEEP", AdBreaks.TOO_DEEP, -5);
        Check.bad("radio;price (((((1)))));", -5, 16);
    }
}

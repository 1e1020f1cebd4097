/** Boundary cases of promises 5 to 20: what is told of the data, and the rules by which it is. */
final class QueryBounds {
    private static final int FAR = Integer.MAX_VALUE;
    private static final int FAR_BELOW = Integer.MIN_VALUE;

    private QueryBounds() {
    }

    static void run() {
        sizes();
        breakOf();
        states();
        spot();
        sponsor();
        isBanned();
        spotsOn();
        reasonArguments();
        reasons();
        capReason();
        bans();
        places();
        price();
        priceVariables();
        priceOperations();
        cheapest();
        widest();
        income();
        owed();
        arrangements();
        arranged();
    }

    interface Answer {
        int of(AdBreaks radio, int argument);
    }

    interface SpotAnswer {
        int of(AdBreaks radio, int sponsor, int seconds, int index);
    }

    /** The radio has 20 breaks. */
    static void noBreak(int promise, Answer call) {
        Sentences.name(promise, "Throws `IndexOutOfBoundsException` if there is no such break");
        AdBreaks radio = Check.loaded(Check.full());
        for (int index : new int[] {-1, 20, 21, FAR, FAR_BELOW}) {
            Check.outOfBounds("break " + index + " of 20", () -> call.of(radio, index));
        }
        Check.outOfBounds("break 0 of none", () -> call.of(new AdBreaks(), 0));
        Check.outOfBounds("break 1 of one", () -> call.of(Check.loaded("radio;break 0 0 10 0;"), 1));
    }

    static void noSponsor(int promise, Answer call) {
        Sentences.name(promise, "Throws `IndexOutOfBoundsException` if there is no such sponsor");
        AdBreaks radio = Check.loaded(Check.full());
        for (int sponsor : new int[] {-1, 8, 9, FAR, FAR_BELOW}) {
            Check.outOfBounds("sponsor " + sponsor + " of 8", () -> call.of(radio, sponsor));
        }
        Check.outOfBounds("sponsor 0 of none", () -> call.of(new AdBreaks(), 0));
        Check.outOfBounds("sponsor 1 of one", () -> call.of(Check.loaded("radio;sponsor 0 1;"), 1));
    }

    /** A method whose argument what goes from 0 to most. */
    private static void badWhat(int promise, AdBreaks radio, int most, Answer call) {
        Sentences.name(promise, "Throws `IllegalArgumentException` if what is out of range");
        for (int what : new int[] {-1, most + 1, FAR, FAR_BELOW}) {
            Check.badArgument("what " + what, () -> call.of(radio, what));
        }
        Check.same("what 0", call.of(radio, 0) >= 0, true);
        Check.same("what " + most, call.of(radio, most) >= 0, true);
    }

    static void badSeconds(AdBreaks radio, Answer call) {
        for (int seconds : new int[] {-1, 0, 4, 61, FAR, FAR_BELOW}) {
            Check.badArgument("seconds " + seconds, () -> call.of(radio, seconds));
        }
    }

    /** What reason, price, book and bookAnyhow say of their arguments. */
    static void spotArguments(int promise, SpotAnswer call) {
        Sentences.name(promise, "- `sponsor`: index of a sponsor");
        Check.same("the first", call.of(Check.loaded(Check.full()), 0, 10, 0) >= 0, true);
        Check.same("the last", call.of(Check.loaded(Check.full()), 7, 10, 0) >= 0, true);
        Sentences.name(promise, "- `seconds`: 5 to 60");
        Check.same("5", call.of(Check.loaded(Check.full()), 0, 5, 0) >= 0, true);
        Check.same("60", call.of(Check.loaded(Check.full()), 0, 60, 0) >= 0, true);
        Sentences.name(promise, "- `index`: index of a break");
        Check.same("the last", call.of(Check.loaded(Check.full()), 0, 10, 19) >= 0, true);

        Sentences.name(promise, "Throws `IndexOutOfBoundsException` if there is no such sponsor or break");
        AdBreaks radio = Check.loaded(Check.full());
        for (int sponsor : new int[] {-1, 8, FAR, FAR_BELOW}) {
            Check.outOfBounds("sponsor " + sponsor + " of 8", () -> call.of(radio, sponsor, 10, 0));
        }
        for (int index : new int[] {-1, 20, FAR, FAR_BELOW}) {
            Check.outOfBounds("break " + index + " of 20", () -> call.of(radio, 0, 10, index));
        }
        Check.outOfBounds("nothing is there", () -> call.of(new AdBreaks(), 0, 10, 0));
        Check.outOfBounds("no sponsors", () -> call.of(Check.loaded("radio;break 0 0 10 0;"), 0, 10, 0));
        Check.outOfBounds("no breaks", () -> call.of(Check.loaded("radio;sponsor 0 1;"), 0, 10, 0));

        Sentences.name(promise, "Throws `IllegalArgumentException` if seconds is out of range");
        badSeconds(radio, (r, seconds) -> call.of(r, 0, seconds, 0));

        Sentences.name(promise, "If several exceptions apply to a call, the one that is listed first with the method is thrown.");
        Check.outOfBounds("sponsor and seconds", () -> call.of(radio, 8, 4, 0));
        Check.outOfBounds("break and seconds", () -> call.of(radio, 0, 61, 20));
        Check.outOfBounds("all three", () -> call.of(radio, -1, -1, -1));
    }

    private static void sizes() {
        Sentences.name(5, "Returns the number of breaks.");
        Check.same("without any", Check.loaded("radio;sponsor 0 1;").breaks(), 0);
        Check.same("one", Check.loaded("radio;break 0 0 10 0;").breaks(), 1);
        AdBreaks radio = Check.loaded(Check.full());
        Check.same("20", radio.breaks(), 20);
        radio.air();
        radio.cancel(19);
        Check.same("aired and cancelled ones too", radio.breaks(), 20);
        Check.load(radio, "radio;");
        Check.same("none again", radio.breaks(), 0);

        Sentences.name(6, "Returns the number of sponsors.");
        Check.same("without any", Check.loaded("radio;break 0 0 10 0;").sponsors(), 0);
        Check.same("one", Check.loaded("radio;sponsor 0 1;").sponsors(), 1);
        Check.same("8", Check.loaded(Check.full()).sponsors(), 8);
        Check.same("none again", radio.sponsors(), 0);
    }

    private static void breakOf() {
        Sentences.name(7, "- `index`: index of a break");
        AdBreaks radio = Check.loaded(Check.full());
        Check.same("the first", radio.breakOf(0, 3), 0);
        Check.same("the last", radio.breakOf(19, 3), 19);

        Sentences.name(7, "- `what`: 0 its day, 1 its hour, 2 its seconds, 3 its audience, 4 0 if it is open, 1 if it is aired,"
            + " 2 if it is cancelled, 5 the number of its spots, 6 the number of seconds of its spots together\n\nReturns this.");
        AdBreaks ends = Check.loaded("radio;break 6 23 300 999;break 0 0 10 0;" + "sponsor 0 9;".repeat(8));
        int[] empty = {0, 0, 10, 0, 0, 0, 0};
        int[] fullOfSpots = {6, 23, 300, 999, 0, 8, 300};
        for (int sponsor = 0; sponsor < 8; sponsor++) {
            Check.same("book of " + sponsor, ends.book(sponsor, sponsor < 4 ? 60 : 15, 1), 0);
        }
        for (int what = 0; what <= 6; what++) {
            Check.same("breakOf(0, " + what + ")", ends.breakOf(0, what), empty[what]);
            Check.same("breakOf(1, " + what + ")", ends.breakOf(1, what), fullOfSpots[what]);
        }
        ends.remove(1, 0);
        Check.same("a spot less", ends.breakOf(1, 5), 7);
        Check.same("its seconds less", ends.breakOf(1, 6), 285);

        noBreak(7, (r, index) -> r.breakOf(index, 0));
        badWhat(7, radio, 6, (r, what) -> r.breakOf(19, what));
        Sentences.name(7, "If several exceptions apply to a call, the one that is listed first with the method is thrown.");
        Check.outOfBounds("break and what", () -> radio.breakOf(20, 7));
    }

    private static void states() {
        Sentences.name(7, "Breaks have indexes from 0 in the order of their days, and of their hours within a day.");
        AdBreaks radio = Check.loaded("radio;break 6 0 10 8;break 1 0 10 4;break 0 23 10 3;break 6 23 10 9;break 0 2 10 1;"
            + "break 5 22 10 7;break 0 10 10 2;break 0 0 10 0;break 1 23 10 5;break 2 1 10 6;");
        for (int index = 0; index < 10; index++) {
            Check.same("the break with the audience " + index, radio.breakOf(index, 3), index);
        }

        Sentences.name(7, "A break is open, aired or cancelled; at first all are open.");
        AdBreaks full = Check.loaded(Check.full());
        for (int index = 0; index < 20; index++) {
            Check.same("at first " + index, full.breakOf(index, 4), 0);
        }
        full.air();
        full.cancel(1);
        Check.same("aired", full.breakOf(0, 4), 1);
        Check.same("cancelled", full.breakOf(1, 4), 2);
        Check.same("the others", full.breakOf(2, 4) + full.breakOf(19, 4), 0);
        Check.load(full, Check.full());
        Check.same("at first after a load", full.breakOf(0, 4) + full.breakOf(1, 4), 0);
    }

    private static void spot() {
        Sentences.name(8, "A break has a row of spots, with places from 0.");
        AdBreaks radio = Check.loaded(Check.full());
        for (int sponsor = 0; sponsor < 8; sponsor++) {
            radio.book(sponsor, 5 + sponsor, 19);
        }
        for (int place = 0; place < 8; place++) {
            Check.same("the sponsor at " + place, radio.spot(19, place, 0), 7 - place);
            Check.same("the seconds at " + place, radio.spot(19, place, 1), 12 - place);
            Check.same("the price at " + place, radio.spot(19, place, 2), 19 * (12 - place) / 10);
        }

        Sentences.name(8, "- `index`: index of a break");
        Check.same("the last", radio.spot(19, 0, 0), 7);
        Sentences.name(8, "- `place`: place of a spot of it");
        Check.same("the first", radio.spot(19, 0, 1), 12);
        Check.same("the last", radio.spot(19, 7, 1), 5);
        Sentences.name(8, "- `what`: 0 its sponsor, 1 its seconds, 2 its price\n\nReturns this.");
        Check.same("sponsor", radio.spot(19, 1, 0), 6);
        Check.same("seconds", radio.spot(19, 1, 1), 11);
        Check.same("price", radio.spot(19, 1, 2), 20);

        noBreak(8, (r, index) -> r.spot(index, 0, 0));
        Sentences.name(8, "Throws `NoSuchElementException` if there is no such spot");
        for (int place : new int[] {-1, 8, 9, FAR, FAR_BELOW}) {
            Check.noElement("place " + place + " of 8", () -> radio.spot(19, place, 0));
        }
        Check.noElement("place 0 of none", () -> radio.spot(0, 0, 0));
        radio.cancel(19);
        Check.noElement("place 0 of a cancelled break", () -> radio.spot(19, 0, 0));
        radio.undo();
        radio.remove(19, 7);
        Check.noElement("a place that is no longer", () -> radio.spot(19, 7, 0));

        badWhat(8, radio, 2, (r, what) -> r.spot(19, 0, what));
        Sentences.name(8, "If several exceptions apply to a call, the one that is listed first with the method is thrown.");
        Check.outOfBounds("break, place and what", () -> radio.spot(20, -1, 3));
        Check.outOfBounds("break and what", () -> radio.spot(-1, 0, 3));
        Check.noElement("place and what", () -> radio.spot(0, 0, 3));
    }

    private static void sponsor() {
        Sentences.name(9, "- `sponsor`: index of a sponsor");
        AdBreaks full = Check.loaded(Check.full());
        Check.same("the first", full.sponsor(0, 0), 0);
        Check.same("the last", full.sponsor(7, 0), 7);

        Sentences.name(9, "- `what`: 0 its category, 1 its cap, 2 the number of its spots in all open and aired breaks,"
            + " 3 in all aired breaks, 4 the number of its owed spots\n\nReturns this.");
        int[] none = {7, 9, 0, 0, 0};
        int[] most = {7, 9, 17, 2, 3};
        for (int what = 0; what <= 4; what++) {
            Check.same("without spots, " + what, full.sponsor(7, what), none[what]);
        }
        full.campaign(7, 5, 20);
        full.campaign(6, 5, 20);
        Check.same("20 spots", full.sponsor(7, 2), 20);
        full.air();
        full.air();
        full.cancel(19);
        full.cancel(2);
        full.cancel(7);
        for (int what = 0; what <= 4; what++) {
            Check.same("with spots, " + what, full.sponsor(7, what), most[what]);
        }
        Check.same("another one", full.sponsor(5, 2) + full.sponsor(5, 3) + full.sponsor(5, 4), 0);
        for (int index = 3; index < 19; index++) {
            if (index != 7) {
                full.cancel(index);
            }
        }
        Check.same("18 owed spots", full.sponsor(7, 4), 18);
        Check.same("the aired ones", full.sponsor(7, 2), 2);

        noSponsor(9, (r, sponsor) -> r.sponsor(sponsor, 0));
        badWhat(9, full, 4, (r, what) -> r.sponsor(7, what));
        Sentences.name(9, "If several exceptions apply to a call, the one that is listed first with the method is thrown.");
        Check.outOfBounds("sponsor and what", () -> full.sponsor(8, 5));
    }

    private static void isBanned() {
        AdBreaks radio = Check.loaded("radio;ban 0 9;ban 4 5;ban 7 7;ban 9 9;ban 0 0;");
        Sentences.name(10, "Returns whether a ban has these categories.");
        for (int pair = 0; pair < 100; pair++) {
            int one = pair / 10;
            int other = pair % 10;
            boolean due = one == other ? one == 0 || one == 7 || one == 9 : pair == 9 || pair == 90 || pair == 45 || pair == 54;
            Check.same("isBanned(" + one + ", " + other + ")", radio.isBanned(one, other), due);
        }
        Check.load(radio, "radio;");
        Check.same("none any more", radio.isBanned(0, 9), false);
        Sentences.name(10, "- `category`: 0 to 9");
        Check.same("0", radio.isBanned(0, 5), false);
        Check.same("9", radio.isBanned(9, 5), false);
        Sentences.name(10, "- `other`: 0 to 9");
        Check.same("0", radio.isBanned(5, 0), false);
        Check.same("9", radio.isBanned(5, 9), false);
        Sentences.name(10, "Throws `IllegalArgumentException` if a category is out of range");
        for (int wrong : new int[] {-1, 10, 31, 32, FAR, FAR_BELOW}) {
            Check.badArgument("category " + wrong, () -> radio.isBanned(wrong, 0) ? 1 : 0);
            Check.badArgument("other " + wrong, () -> radio.isBanned(0, wrong) ? 1 : 0);
            Check.badArgument("both " + wrong, () -> radio.isBanned(wrong, wrong) ? 1 : 0);
            Check.badArgument("without a load " + wrong, () -> new AdBreaks().isBanned(wrong, 0) ? 1 : 0);
        }
    }

    private static void spotsOn() {
        Sentences.name(11, "- `sponsor`: index of a sponsor");
        AdBreaks radio = Check.loaded(Check.full());
        radio.campaign(7, 5, 20);
        Check.same("the first", radio.spotsOn(0, 0), 0);
        Check.same("the last", radio.spotsOn(7, 0), 3);
        Sentences.name(11, "- `day`: 0 to 6");
        Check.same("0", radio.spotsOn(7, 0), 3);
        Check.same("6", radio.spotsOn(7, 6), 2);

        Sentences.name(11, "Returns the number of its spots in all open and aired breaks of the day.");
        radio.air();
        Check.same("aired ones", radio.spotsOn(7, 0), 3);
        radio.cancel(1);
        Check.same("not cancelled ones", radio.spotsOn(7, 0), 2);
        radio.cancel(2);
        radio.cancel(18);
        radio.cancel(19);
        Check.same("the aired one alone", radio.spotsOn(7, 0), 1);
        Check.same("all are cancelled", radio.spotsOn(7, 6), 0);
        Check.same("another day", radio.spotsOn(7, 1), 3);
        Check.same("a day without breaks", Check.loaded("radio;break 1 0 10 0;sponsor 0 1;").spotsOn(0, 6), 0);

        noSponsor(11, (r, sponsor) -> r.spotsOn(sponsor, 0));
        Sentences.name(11, "Throws `IllegalArgumentException` if day is out of range");
        for (int day : new int[] {-1, 7, FAR, FAR_BELOW}) {
            Check.badArgument("day " + day, () -> radio.spotsOn(7, day));
        }
        Sentences.name(11, "If several exceptions apply to a call, the one that is listed first with the method is thrown.");
        Check.outOfBounds("sponsor and day", () -> radio.spotsOn(8, 7));
    }

    private static void reasonArguments() {
        Sentences.name(12, "Returns the reason for which the break refuses such a spot; 0 if it does not.");
        AdBreaks radio = Check.loaded(Check.full());
        Check.same("an empty break", radio.reason(7, 60, 19), 0);
        radio.book(7, 60, 19);
        Check.same("with its spot", radio.reason(7, 60, 19), 2);
        spotArguments(12, AdBreaks::reason);
        Sentences.name(12, "0 stands for no reason.");
        Check.same("another sponsor", radio.reason(6, 60, 19), 0);
        Check.same("it is booked", radio.book(6, 60, 19), 0);
    }

    private static void reasons() {
        Sentences.name(12, "A spot of a sponsor with some seconds can be refused by a break for these reasons,"
            + " of which the first one that applies counts:");
        // Sponsors 0 to 2 may not stand beside each other; sponsor 0 and 1 may have one spot a day.
        AdBreaks radio = Check.loaded("radio;break 0 0 30 1;break 0 1 30 1;break 1 0 30 1;"
            + "sponsor 0 1;sponsor 0 1;sponsor 0 9;sponsor 1 9;ban 0 0;");
        radio.book(0, 20, 0);
        radio.book(1, 20, 1);
        Check.same("2, although 3, 4 and 5 apply too", radio.reason(0, 60, 0), 2);
        Check.same("3, although 4 and 5 apply too", radio.reason(1, 60, 0), 3);
        Check.same("4, although 5 applies too", radio.reason(2, 60, 0), 4);
        Check.same("5", radio.reason(2, 10, 0), 5);
        Check.same("none", radio.reason(3, 10, 0), 0);
        radio.air();
        Check.same("1, although 2 to 5 apply too", radio.reason(0, 60, 0), 1);
        Check.same("1, although 3 to 5 apply too", radio.reason(1, 60, 0), 1);
        Check.same("1, although 4 and 5 apply too", radio.reason(2, 60, 0), 1);
        Check.same("1, although 5 applies too", radio.reason(2, 10, 0), 1);
        Check.same("1 alone", radio.reason(3, 10, 0), 1);

        Sentences.name(12, "1 the break is not open;");
        radio.cancel(1);
        Check.same("aired", radio.reason(3, 5, 0), 1);
        Check.same("cancelled", radio.reason(3, 5, 1), 1);
        Check.same("open", radio.reason(3, 5, 2), 0);

        Sentences.name(12, "2 it has a spot of the sponsor;");
        AdBreaks one = Check.loaded("radio;break 0 0 300 1;break 0 1 300 1;sponsor 0 9;sponsor 0 9;");
        one.book(0, 5, 0);
        one.book(1, 5, 0);
        Check.same("behind another spot", one.reason(0, 5, 0), 2);
        Check.same("at the first place", one.reason(1, 5, 0), 2);
        Check.same("another break", one.reason(0, 5, 1), 0);
        one.remove(0, 1);
        Check.same("no longer", one.reason(0, 5, 0), 0);

        Sentences.name(12, "4 the seconds that are left are not enough;");
        AdBreaks left = Check.loaded("radio;break 0 0 65 1;break 0 1 10 1;sponsor 0 9;sponsor 0 9;");
        Check.same("60 of 65", left.reason(0, 60, 0), 0);
        Check.same("10 of 10", left.reason(0, 10, 1), 0);
        Check.same("11 of 10", left.reason(0, 11, 1), 4);
        left.book(0, 60, 0);
        Check.same("5 of 5", left.reason(1, 5, 0), 0);
        Check.same("6 of 5", left.reason(1, 6, 0), 4);
        left.book(0, 10, 1);
        Check.same("5 of 0", left.reason(1, 5, 1), 4);
    }

    private static void capReason() {
        Sentences.name(12, "a new spot is refused if it has so many spots, or more, in all open and aired breaks of one day together.");
        AdBreaks radio = Check.loaded("radio;break 0 0 10 1;break 0 1 10 1;break 0 2 10 1;break 0 3 10 1;break 1 0 10 1;sponsor 0 3;sponsor 0 1;");
        radio.book(0, 5, 0);
        radio.book(0, 5, 1);
        Check.same("two of three", radio.reason(0, 5, 3), 0);
        radio.book(0, 5, 2);
        Check.same("three of three", radio.reason(0, 5, 3), 3);
        Check.same("another day", radio.reason(0, 5, 4), 0);
        Check.same("another sponsor", radio.reason(1, 5, 3), 0);
        radio.setCap(0, 1);
        Check.same("three of one", radio.reason(0, 5, 3), 3);
        radio.setCap(0, 4);
        Check.same("three of four", radio.reason(0, 5, 3), 0);
        radio.setCap(0, 3);
        radio.air();
        Check.same("aired ones count", radio.reason(0, 5, 3), 3);
        radio.cancel(1);
        Check.same("cancelled ones do not", radio.reason(0, 5, 3), 0);

        Sentences.name(12, "3 the sponsor has as many spots as its cap, or more, in the open and aired breaks of the day;");
        StringBuilder text = new StringBuilder("radio;sponsor 0 9;");
        for (int hour = 0; hour < 11; hour++) {
            text.append("break 3 ").append(hour).append(" 10 1;");
        }
        AdBreaks day = Check.loaded(text.toString());
        for (int index = 0; index < 9; index++) {
            Check.same(index + " of 9", day.reason(0, 5, 10), 0);
            day.book(0, 5, index);
        }
        Check.same("9 of 9", day.reason(0, 5, 10), 3);
        day.setCap(0, 1);
        Check.same("9 of 1", day.reason(0, 5, 10), 3);
        day.setCap(0, 9);
        day.remove(8, 0);
        Check.same("8 of 9", day.reason(0, 5, 10), 0);
    }

    private static void bans() {
        Sentences.name(12, "two spots whose sponsors have these categories, one each, must not stand in places of a break that follow each other.");
        AdBreaks two = Check.loaded("radio;break 0 0 300 1;sponsor 0 9;sponsor 9 9;sponsor 0 9;sponsor 9 9;sponsor 5 9;ban 9 0;");
        two.book(0, 5, 0);
        Check.same("the other category", two.reason(1, 5, 0), 5);
        Check.same("the same category", two.reason(2, 5, 0), 0);
        Check.same("a third category", two.reason(4, 5, 0), 0);
        two.book(4, 5, 0);
        Check.same("with one between them", two.reason(1, 5, 0), 0);
        AdBreaks one = Check.loaded("radio;break 0 0 300 1;break 0 1 300 1;sponsor 3 9;sponsor 3 9;sponsor 4 9;ban 3 3;");
        one.book(0, 5, 0);
        Check.same("one category", one.reason(1, 5, 0), 5);
        Check.same("another category", one.reason(2, 5, 0), 0);
        Check.same("another break", one.reason(1, 5, 1), 0);

        Sentences.name(12, "5 at each place where the spot could be put in (before, between or behind the spots of the break,"
            + " whose order stays), a ban would be broken.");
        Check.same("an empty break", rowOf("ban 0 0;", 0).reason(0, 5, 0), 0);
        Check.same("one spot", rowOf("ban 0 1;", 0, 1).reason(1, 5, 0), 5);
        Check.same("free before", rowOf("ban 0 1;", 0, 2, 1).reason(2, 5, 0), 0);
        Check.same("free behind", rowOf("ban 0 1;", 0, 1, 2).reason(2, 5, 0), 0);
        Check.same("free between", rowOf("ban 0 1;", 0, 1, 2, 2, 1).reason(4, 5, 0), 0);
        Check.same("nowhere, although another order would do", rowOf("ban 0 1;", 0, 1, 2, 1).reason(3, 5, 0), 5);
        Check.same("free before 7", rowOf("ban 0 1;", 0, 2, 1, 2, 1, 2, 1, 1).reason(7, 5, 0), 0);
        Check.same("free behind 7", rowOf("ban 0 1;", 0, 1, 2, 1, 2, 1, 1, 2).reason(7, 5, 0), 0);
        Check.same("free between 7", rowOf("ban 0 1;", 0, 1, 2, 1, 2, 2, 1, 1).reason(7, 5, 0), 0);
        Check.same("nowhere between 7", rowOf("ban 0 1;", 0, 1, 2, 1, 1, 2, 1, 1).reason(7, 5, 0), 5);
        Check.same("two bans", rowOf("ban 0 1;ban 0 3;", 0, 3, 2, 1).reason(3, 5, 0), 5);
    }

    /** A break with a row of sponsors 0, 1, .. of these categories; the sponsor behind them has no spot in it. */
    static AdBreaks rowOf(String bans, int categoryBehind, int... categories) {
        StringBuilder text = new StringBuilder("radio;break 0 0 300 1;");
        for (int category : categories) {
            text.append("sponsor ").append(category).append(" 9;");
        }
        AdBreaks radio = Check.loaded(text + "sponsor " + categoryBehind + " 9;" + bans);
        for (int sponsor = categories.length - 1; sponsor >= 0; sponsor--) {
            Check.same("the row's sponsor " + sponsor, radio.book(sponsor, 5, 0), 0);
        }
        return radio;
    }

    private static void places() {
        Sentences.name(12, "To put a spot into a break that does not refuse it means: it is put in at the smallest place at which no ban is broken.");
        Check.same("an empty break", rowOf("ban 0 0;", 0).book(0, 5, 0), 0);
        Check.same("the first of all", rowOf("ban 0 1;", 0, 2, 1).book(2, 5, 0), 0);
        Check.same("the last of all", rowOf("ban 0 1;", 0, 1, 2).book(2, 5, 0), 2);
        Check.same("the smallest of two", rowOf("ban 0 1;", 0, 1, 2, 2).book(3, 5, 0), 2);
        Check.same("between", rowOf("ban 0 1;", 0, 1, 2, 2, 1).book(4, 5, 0), 2);
        Check.same("the first of 8", rowOf("ban 0 1;", 0, 2, 1, 2, 1, 2, 1, 1).book(7, 5, 0), 0);
        Check.same("the last of 8", rowOf("ban 0 1;", 0, 1, 2, 1, 2, 1, 1, 2).book(7, 5, 0), 7);
        AdBreaks radio = rowOf("ban 0 1;", 0, 1, 2, 1, 2, 2, 1, 1);
        Check.same("between 8", radio.book(7, 5, 0), 4);
        Check.row("the order of the others stays", radio, 0, 0, 1, 2, 3, 7, 4, 5, 6);
    }

    private static void price() {
        Sentences.name(13, "Returns the price of such a spot in the break now (whether it is refused or not).");
        AdBreaks radio = Check.loaded("radio;break 0 0 30 10;break 0 1 30 10;break 1 0 30 10;"
            + "sponsor 0 1;sponsor 0 1;sponsor 0 9;sponsor 1 9;ban 0 0;");
        radio.book(0, 20, 0);
        radio.book(1, 20, 1);
        int[][] refused = {{2, 0, 10}, {3, 1, 60}, {4, 2, 60}, {5, 2, 10}};
        for (int[] each : refused) {
            Check.same("reason " + each[0], radio.reason(each[1], each[2], 0), each[0]);
            Check.same("although " + each[0] + " is against it", radio.price(each[1], each[2], 0), each[2]);
        }
        radio.air();
        Check.same("of an aired break", radio.price(3, 7, 0), 7);
        radio.cancel(1);
        Check.same("of a cancelled break", radio.price(3, 7, 1), 7);
        AdBreaks now = Check.loaded("radio;price spots;break 0 0 30 10;sponsor 0 1;");
        Check.same("before", now.price(0, 5, 0), 0);
        now.book(0, 5, 0);
        Check.same("now", now.price(0, 5, 0), 1);
        spotArguments(13, AdBreaks::price);

        Sentences.name(13, "The price of a spot of a sponsor with some seconds in a break is the value of the price expression,"
            + " limited to the range 0 to 99999.");
        priced("0", 0);
        priced("1", 1);
        priced("0-1", 0);
        priced("9999*10+8", 99998);
        priced("9999*10+9", 99999);
        priced("9999*10+10", 99999);
        Sentences.name(13, "A number that is limited to a range becomes the nearer bound if it is outside of it.");
        priced("9999*9999", 99999);
        priced("0-9999*9999", 0);
        Sentences.name(13, "Without a price statement it is audience * seconds / 10.");
        AdBreaks plain = Check.loaded("radio;break 0 0 300 999;break 0 1 10 0;break 0 2 10 7;break 0 3 10 1;sponsor 0 9;");
        Check.same("the largest", plain.price(0, 60, 0), 5994);
        Check.same("the smallest", plain.price(0, 60, 1), 0);
        Check.same("7 * 15 / 10", plain.price(0, 15, 2), 10);
        Check.same("1 * 9 / 10", plain.price(0, 9, 3), 0);
        Check.same("1 * 10 / 10", plain.price(0, 10, 3), 1);
        Check.load(plain, "radio;price 3;break 0 0 10 9;sponsor 0 1;");
        Check.load(plain, "radio;break 0 0 10 9;sponsor 0 1;");
        Check.same("not that of an earlier text", plain.price(0, 10, 0), 9);
        Sentences.name(3, "Reads the first bytes of the input buffer as a setup text and replaces all data by it.");
        Check.load(plain, "radio;price 1+2*3-4+5*6+7;break 0 0 10 9;sponsor 0 1;");
        for (int change = 0; change < 10; change++) {
            Check.same("a long one after " + change + " changes", plain.price(0, 10, 0), 40);
            plain.setCap(0, 1);
        }
        Check.load(plain, "radio;price 4;break 0 0 10 9;sponsor 0 1;");
        for (int change = 0; change < 10; change++) {
            Check.same("a short one after " + change + " changes", plain.price(0, 10, 0), 4);
            plain.setCap(0, 1);
        }
    }

    /** The price of 10 seconds where the hour is 20 and the audience is 300. */
    private static void priced(String sum, int due) {
        AdBreaks radio = Check.loaded("radio;price " + sum + ";break 3 20 200 300;sponsor 0 9;");
        Check.same("price " + sum, radio.price(0, 10, 0), due);
    }

    private static void priceVariables() {
        Sentences.name(13, "In the expression, audience and hour are those of the break, seconds those of the spot,");
        String ends = ";break 0 0 300 0;break 6 23 300 999;sponsor 0 9;";
        AdBreaks audience = Check.loaded("radio;price audience" + ends);
        Check.same("the smallest audience", audience.price(0, 10, 0), 0);
        Check.same("the largest audience", audience.price(0, 10, 1), 999);
        AdBreaks hour = Check.loaded("radio;price hour" + ends);
        Check.same("the first hour", hour.price(0, 10, 0), 0);
        Check.same("the last hour", hour.price(0, 10, 1), 23);
        AdBreaks seconds = Check.loaded("radio;price seconds" + ends);
        Check.same("the fewest seconds", seconds.price(0, 5, 0), 5);
        Check.same("the most seconds", seconds.price(0, 60, 0), 60);

        Sentences.name(13, "used is the number of seconds that the spots of the break have together (before the spot is put in),");
        AdBreaks used = Check.loaded("radio;price used;break 0 0 75 1;break 0 1 75 1;sponsor 0 9;sponsor 0 9;sponsor 0 9;");
        used.book(0, 60, 0);
        Check.same("the first spot's price", used.spot(0, 0, 2), 0);
        used.book(1, 15, 0);
        Check.same("the second spot's price", used.spot(0, 0, 2), 60);
        Check.same("a full break", used.price(2, 5, 0), 75);
        Check.same("another break", used.price(2, 5, 1), 0);
        used.cancel(0);
        Check.same("a cancelled break", used.price(2, 5, 0), 0);

        Sentences.name(13, "and spots is the number of spots that the sponsor has in all open and aired breaks (before, too).");
        AdBreaks spots = Check.loaded("radio;price spots+10;" + Check.full().substring(6));
        Check.same("none", spots.price(7, 5, 0), 10);
        spots.campaign(7, 5, 20);
        Check.same("the first spot's price", spots.spot(0, 0, 2), 10);
        Check.same("the last spot's price", spots.spot(19, 0, 2), 29);
        Check.same("20", spots.price(7, 5, 0), 30);
        spots.air();
        Check.same("aired ones too", spots.price(7, 5, 0), 30);
        spots.cancel(19);
        Check.same("neither cancelled nor owed ones", spots.price(7, 5, 0), 29);
        Check.same("another sponsor", spots.price(6, 5, 0), 10);
    }

    private static void priceOperations() {
        Sentences.name(13, "All numbers are integers.");
        priced("1/2*2", 0);
        priced("5/10+5/10", 0);
        Sentences.name(13, "Division truncates toward zero.");
        priced("7/2", 3);
        priced("(0-7)/2+10", 7);
        priced("7/(0-2)+10", 7);
        priced("(0-7)/(0-2)", 3);
        priced("(0-1)/2+5", 5);
        Sentences.name(13, "Division by 0 gives 0.");
        priced("5/0+3", 3);
        priced("0/0+3", 3);
        priced("(0-5)/0+3", 3);
        priced("5/0*7+3", 3);
        priced("5/spots+3", 3);
        priced("5/(used*hour)+3", 3);
        Sentences.name(13, "The operations of one sum or term are made from the left to the right;");
        priced("10-3-2", 5);
        priced("10-3+2", 9);
        priced("100/10/5", 2);
        priced("7/2*2", 6);
        priced("7*2/2", 7);
        priced("2+3*4", 14);
        priced("20-3*4/2-1", 13);
        priced("20-(3-1)", 18);
        Sentences.name(13, "the result of each one is limited to the range -1000000 to 1000000.");
        priced("5000*200-9999*99", 10099);
        priced("5000*200-1-9999*99", 10098);
        priced("5000*200+1-9999*99", 10099);
        priced("9999*101-9999*99", 10099);
        priced("9999*9999/9999", 100);
        priced("9999*9999*9999*9999-9999*99", 10099);
        priced("(0-5000)*200+9999*100+101", 1);
        priced("(0-5000)*200+1+9999*100+101", 2);
        priced("(0-5000)*200-1+9999*100+101", 1);
        priced("0-5000*199-9999+9999*100+101", 1);
        priced("(0-9999)*9999*9999*9999+9999*100+101", 1);
        priced("5000*200/(0-1)+9999*100+101", 1);
    }

    private static void cheapest() {
        Sentences.name(14, "- `sponsor`: index of a sponsor");
        AdBreaks radio = Check.loaded(Check.full());
        Check.same("the first", radio.cheapest(0, 10), 0);
        Check.same("the last", radio.cheapest(7, 10), 0);
        Sentences.name(14, "- `seconds`: 5 to 60");
        Check.same("5", radio.cheapest(7, 5), 0);
        Check.same("60", radio.cheapest(7, 60), 0);

        Sentences.name(14, "Returns the index of the break with the smallest price of those that do not refuse such a spot; -1 if there is none.");
        for (int index = 0; index < 20; index++) {
            Check.same("after " + index, radio.cheapest(0, 10), index);
            radio.book(0, 10, index);
        }
        Check.same("all refuse", radio.cheapest(0, 10), -1);
        Check.same("no breaks", Check.loaded("radio;sponsor 0 1;").cheapest(0, 5), -1);
        Check.same("too short", Check.loaded("radio;break 0 0 10 0;sponsor 0 1;").cheapest(0, 11), -1);
        Check.same("the last one", Check.loaded("radio;price 999-audience;" + Check.full().substring(6)).cheapest(0, 10), 19);
        Check.same("the one that does not refuse has the largest price",
            Check.loaded("radio;price 9999*hour;break 0 1 10 0;break 0 23 60 0;sponsor 0 1;").cheapest(0, 60), 1);

        Sentences.name(14, "Of several breaks of which one is to be chosen, the earliest one counts, unless something else is said.");
        AdBreaks equal = Check.loaded("radio;break 3 0 60 7;break 2 0 60 5;break 1 9 60 5;break 1 3 60 6;sponsor 0 9;");
        Check.same("two of the smallest price", equal.cheapest(0, 10), 1);
        Check.same("all at the largest price", Check.loaded("radio;price 9999*audience;break 0 0 60 99;break 0 1 60 11;"
            + "sponsor 0 1;").cheapest(0, 10), 0);
        Check.same("all at 0", Check.loaded("radio;price 0-audience;break 0 0 60 1;break 0 1 60 2;sponsor 0 1;").cheapest(0, 10), 0);

        noSponsor(14, (r, sponsor) -> r.cheapest(sponsor, 10));
        Sentences.name(14, "Throws `IllegalArgumentException` if seconds is out of range");
        badSeconds(radio, (r, seconds) -> r.cheapest(0, seconds));
        Sentences.name(14, "If several exceptions apply to a call, the one that is listed first with the method is thrown.");
        Check.outOfBounds("sponsor and seconds", () -> radio.cheapest(8, 61));
    }

    private static void widest() {
        Sentences.name(15, "- `sponsor`: index of a sponsor");
        AdBreaks radio = Check.loaded(Check.full());
        Check.same("the first", radio.widest(0, 10), 19);
        Check.same("the last", radio.widest(7, 10), 19);
        Sentences.name(15, "- `seconds`: 5 to 60");
        Check.same("5", radio.widest(7, 5), 19);
        Check.same("60", radio.widest(7, 60), 19);

        Sentences.name(15, "Returns the index of the break with the greatest audience of those that do not refuse such a spot; -1 if there is none.");
        for (int index = 19; index >= 0; index--) {
            Check.same("after " + index, radio.widest(0, 10), index);
            radio.book(0, 10, index);
        }
        Check.same("all refuse", radio.widest(0, 10), -1);
        Check.same("no breaks", Check.loaded("radio;sponsor 0 1;").widest(0, 5), -1);
        Check.same("too short", Check.loaded("radio;break 0 0 10 999;sponsor 0 1;").widest(0, 11), -1);
        Check.same("nobody listens", Check.loaded("radio;break 0 0 10 0;sponsor 0 1;").widest(0, 10), 0);
        Check.same("the one that does not refuse is the smallest", Check.loaded("radio;break 0 0 10 999;break 0 1 11 0;"
            + "sponsor 0 1;").widest(0, 11), 1);

        Sentences.name(15, "Of several breaks of which one is to be chosen, the earliest one counts, unless something else is said.");
        Check.same("two of the greatest audience", Check.loaded("radio;break 3 0 60 6;break 2 0 60 7;break 1 9 60 7;"
            + "break 1 3 60 6;sponsor 0 9;").widest(0, 10), 1);
        Check.same("all alike", Check.loaded("radio;break 3 0 60 6;break 2 0 60 6;sponsor 0 9;").widest(0, 10), 0);

        noSponsor(15, (r, sponsor) -> r.widest(sponsor, 10));
        Sentences.name(15, "Throws `IllegalArgumentException` if seconds is out of range");
        badSeconds(radio, (r, seconds) -> r.widest(0, seconds));
        Sentences.name(15, "If several exceptions apply to a call, the one that is listed first with the method is thrown.");
        Check.outOfBounds("sponsor and seconds", () -> radio.widest(8, 61));
    }

    private static void income() {
        Sentences.name(16, "Returns the income.");
        AdBreaks radio = Check.loaded("radio;price 9999*11-audience*9999*hour;" + Check.full().substring(6));
        Check.same("none", radio.income(), 0);
        Check.same("with nothing loaded", new AdBreaks().income(), 0);
        radio.book(0, 5, 1);
        Check.same("a price", radio.income(), 99990);

        Sentences.name(16, "The income is the sum of the prices of all spots, each as it was when the spot was booked, minus refunds.");
        AdBreaks most = Check.loaded("radio;price 9999*11;" + Check.full().substring(6));
        for (int sponsor = 0; sponsor < 8; sponsor++) {
            Check.same("a campaign of sponsor " + sponsor, most.campaign(sponsor, 5, 20), 20);
        }
        Check.same("160 of the largest price", most.income(), 160 * 99999);
        Check.same("a refund", most.remove(0, 0), 49999);
        Check.same("minus the refund", most.income(), 160 * 99999 - 49999);
        AdBreaks free = Check.loaded("radio;price 0;break 0 0 10 1;sponsor 0 1;");
        free.book(0, 10, 0);
        free.remove(0, 0);
        Check.same("of the price 0", free.income(), 0);
        AdBreaks aired = Check.loaded("radio;price 5;break 0 0 10 1;break 0 1 10 1;sponsor 0 9;");
        aired.book(0, 10, 0);
        aired.air();
        Check.same("an aired spot", aired.income(), 5);

        Sentences.name(16, "A spot keeps the price at which it was booked.");
        AdBreaks kept = Check.loaded("radio;price used+spots*1000;break 0 0 60 1;break 0 1 60 1;sponsor 0 9;sponsor 0 9;");
        kept.book(0, 10, 0);
        kept.book(1, 10, 0);
        kept.book(0, 10, 1);
        Check.same("the first", kept.spot(0, 1, 2), 0);
        Check.same("the second", kept.spot(0, 0, 2), 10);
        Check.same("the third", kept.spot(1, 0, 2), 1000);
        Check.same("together", kept.income(), 1010);
        kept.cancel(0);
        Check.same("owed", kept.owedSpot(0, 2), 10);
        kept.makeGood();
        Check.same("made good", kept.spot(1, 0, 2), 10);
    }

    private static void owed() {
        Sentences.name(17, "Returns the number of owed spots.");
        Check.same("with nothing loaded", new AdBreaks().owed(), 0);
        AdBreaks radio = Check.loaded(Check.full());
        Check.same("none", radio.owed(), 0);
        for (int sponsor = 0; sponsor < 8; sponsor++) {
            radio.campaign(sponsor, 5, 20);
        }
        Check.same("none yet", radio.owed(), 0);
        for (int index = 0; index < 20; index++) {
            radio.cancel(index);
            Check.same("after break " + index, radio.owed(), 8 * index + 8);
        }
        Sentences.name(18, "Owed spots have indexes from 0.");
        for (int index = 0; index < 160; index++) {
            Check.same("the sponsor of " + index, radio.owedSpot(index, 0), 7 - index % 8);
            Check.same("the least audience of " + index, radio.owedSpot(index, 3), index / 8);
        }
        Sentences.name(18, "- `index`: index of an owed spot");
        Check.same("the first", radio.owedSpot(0, 1), 5);
        Check.same("the last", radio.owedSpot(159, 1), 5);
        Sentences.name(18, "- `what`: 0 its sponsor, 1 its seconds, 2 its price, 3 its least audience\n\nReturns this.");
        int[] due = {3, 5, 9, 19};
        for (int what = 0; what <= 3; what++) {
            Check.same("owedSpot(156, " + what + ")", radio.owedSpot(156, what), due[what]);
        }
        Sentences.name(18, "Throws `NoSuchElementException` if there is no such owed spot");
        for (int index : new int[] {-1, 160, FAR, FAR_BELOW}) {
            Check.noElement("owed spot " + index + " of 160", () -> radio.owedSpot(index, 0));
        }
        Check.noElement("0 of none", () -> Check.loaded(Check.full()).owedSpot(0, 0));
        Check.noElement("with nothing loaded", () -> new AdBreaks().owedSpot(0, 0));
        badWhat(18, radio, 3, (r, what) -> r.owedSpot(159, what));
        Sentences.name(18, "If several exceptions apply to a call, the one that is listed first with the method is thrown.");
        Check.noElement("index and what", () -> radio.owedSpot(160, 4));
    }

    private static void badSets(Answer call) {
        AdBreaks eight = Check.loaded(Check.full());
        for (int set : new int[] {-1, 256, 511, FAR, FAR_BELOW}) {
            Check.badArgument("set " + set + " of 8 sponsors", () -> call.of(eight, set));
        }
        AdBreaks one = Check.loaded("radio;sponsor 0 1;");
        Check.badArgument("set 2 of one sponsor", () -> call.of(one, 2));
        Check.badArgument("set -1 of one sponsor", () -> call.of(one, -1));
        Check.badArgument("set 1 of no sponsors", () -> call.of(new AdBreaks(), 1));
        Check.badArgument("set -1 of no sponsors", () -> call.of(new AdBreaks(), -1));
    }

    private static void arrangements() {
        Sentences.name(19, "- `set`: a set of sponsors, 0 to 2^s - 1, where s is the number of sponsors: bit k stands for sponsor k");
        AdBreaks radio = Check.loaded(Check.full() + "ban 2 5;");
        for (int pair = 0; pair < 64; pair++) {
            int one = pair / 8;
            int other = pair % 8;
            int due = one == other ? 1 : one + other == 7 && one * other == 10 ? 0 : 2;
            Check.same("the set of " + one + " and " + other, radio.arrangements(1 << one | 1 << other), due);
        }
        Check.same("the largest set", radio.arrangements(255), 40320 - 10080);

        Sentences.name(19, "Returns the number of arrangements of the set (1 for the empty set).");
        Check.same("the empty set of 8", radio.arrangements(0), 1);
        Check.same("the empty set of none", new AdBreaks().arrangements(0), 1);
        AdBreaks free = Check.loaded(Check.full());
        int[] due = {1, 1, 2, 6, 24, 120, 720, 5040, 40320};
        for (int set = 0; set < 256; set++) {
            Check.same("without bans, set " + set, free.arrangements(set), due[Integer.bitCount(set)]);
        }

        Sentences.name(19, "An arrangement of a set of sponsors is an order of all of them, such that for no two that follow each"
            + " other a ban has their categories.");
        AdBreaks none = Check.loaded("radio;ban 4 4;" + "sponsor 4 1;".repeat(8));
        Check.same("none of 8", none.arrangements(255), 0);
        Check.same("none of two", none.arrangements(129), 0);
        Check.same("a sponsor alone, whose own category is banned", none.arrangements(128), 1);
        AdBreaks half = Check.loaded("radio;ban 4 4;" + "sponsor 4 1;sponsor 5 1;".repeat(4));
        Check.same("4 with others between them", half.arrangements(255), 5 * 24 * 24);
        Check.same("3 with one between them", half.arrangements(0b00010111), 0);
        Check.same("3 with two between them", half.arrangements(0b00011111), 12);

        AdBreaks again = Check.loaded("radio;sponsor 0 1;sponsor 1 1;");
        Check.same("before another load", again.arrangements(3), 2);
        Check.load(again, "radio;sponsor 0 1;sponsor 1 1;ban 0 1;");
        Check.same("with its ban", again.arrangements(3), 0);
        Check.same("with its ban", again.arranged(3, 0), -1);
        again.undo();
        Check.same("without it again", again.arrangements(3), 2);

        Sentences.name(19, "Throws `IllegalArgumentException` if set is out of range");
        badSets(AdBreaks::arrangements);
    }

    private static void order(AdBreaks radio, int set, int... sponsors) {
        for (int place = 0; place < sponsors.length; place++) {
            Check.same("arranged(" + set + ", " + place + ")", radio.arranged(set, place), sponsors[place]);
        }
    }

    private static void arranged() {
        Sentences.name(20, "- `set`: a set of sponsors, 0 to 2^s - 1, where s is the number of sponsors");
        AdBreaks free = Check.loaded(Check.full());
        order(free, 1, 0);
        order(free, 128, 7);
        order(free, 255, 0, 1, 2, 3, 4, 5, 6, 7);
        Sentences.name(20, "- `place`: 0 to the number of its sponsors - 1");
        Check.same("the first", free.arranged(0b10100010, 0), 1);
        Check.same("the last", free.arranged(0b10100010, 2), 7);

        Sentences.name(20, "Returns the sponsor at this place of the first arrangement of the set; -1 if there is none.");
        AdBreaks none = Check.loaded(Check.full() + "ban 0 1;ban 0 2;ban 1 2;");
        order(none, 3, -1, -1);
        order(none, 7, -1, -1, -1);
        order(none, 4, 2);
        order(none, 15, -1, -1, -1, -1);
        order(none, 31, 0, 3, 1, 4, 2);

        Sentences.name(20, "Of two arrangements, the one is first that has the smaller sponsor where they first differ.");
        order(Check.loaded(Check.full() + "ban 0 1;"), 255, 0, 2, 1, 3, 4, 5, 6, 7);
        order(Check.loaded(Check.full() + "ban 6 7;"), 255, 0, 1, 2, 3, 4, 6, 5, 7);
        order(Check.loaded(Check.full() + "ban 0 1;ban 0 2;ban 0 3;ban 0 4;ban 0 5;ban 0 6;"), 255, 0, 7, 1, 2, 3, 4, 5, 6);
        order(Check.loaded(Check.full() + "ban 3 1;ban 3 2;"), 15, 1, 2, 0, 3);
        order(Check.loaded("radio;ban 4 4;" + "sponsor 4 1;sponsor 5 1;".repeat(4)), 255, 0, 1, 2, 3, 4, 5, 6, 7);
        order(Check.loaded("radio;ban 4 4;" + "sponsor 4 1;".repeat(4) + "sponsor 5 1;".repeat(4)), 255, 0, 4, 1, 5, 2, 6, 3, 7);

        Sentences.name(20, "Throws `IllegalArgumentException` if set is out of range");
        badSets((radio, set) -> radio.arranged(set, 0));
        Sentences.name(20, "Throws `IndexOutOfBoundsException` if place is out of range");
        for (int place : new int[] {-1, 8, FAR, FAR_BELOW}) {
            Check.outOfBounds("place " + place + " of 8", () -> free.arranged(255, place));
        }
        Check.outOfBounds("place 3 of three", () -> free.arranged(0b10100010, 3));
        Check.outOfBounds("place 0 of the empty set", () -> free.arranged(0, 0));
        Check.outOfBounds("place 0 of no sponsors", () -> new AdBreaks().arranged(0, 0));
        Check.outOfBounds("place 2 of a set without arrangement", () -> none.arranged(3, 2));
        Sentences.name(20, "If several exceptions apply to a call, the one that is listed first with the method is thrown.");
        Check.badArgument("set and place", () -> free.arranged(256, 9));
        Check.badArgument("set and place below", () -> free.arranged(-1, -1));
    }
}

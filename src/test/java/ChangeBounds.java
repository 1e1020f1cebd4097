import java.math.BigInteger;

/** Boundary cases of promises 21 to 30: the changes, what is owed and made good, undo and the checksum. */
final class ChangeBounds {
    private static final int FAR = Integer.MAX_VALUE;
    private static final int FAR_BELOW = Integer.MIN_VALUE;
    private static final String FIRST_LISTED = "If several exceptions apply to a call, the one that is listed first with the method is thrown.";

    private ChangeBounds() {
    }

    static void run() {
        book();
        bookRefused();
        spotsOfOneBreak();
        bookAnyhowLikeBook();
        bookAnyhowInOrder();
        bookAnyhowArguments();
        removeRefund();
        removeBetween();
        removeThrows();
        air();
        cancel();
        cancelThrows();
        makeGood();
        makeGoodRefused();
        makeGoodOthers();
        campaign();
        campaignThrows();
        setCap();
        changes();
        changesWithoutEffect();
        noChanges();
        latestEight();
        undo();
        throwingChangesNothing();
        checksum();
    }

    private static void book() {
        Sentences.name(21, "Books a spot: it is put into a break at its price.");
        AdBreaks radio = Check.loaded("radio;price used*10+seconds+spots;break 0 0 300 1;break 6 23 10 1;" + "sponsor 0 9;".repeat(4));
        radio.book(3, 10, 1);
        Check.same("into an empty break", radio.book(0, 5, 0), 0);
        Check.same("its price", radio.spot(0, 0, 2), 5);
        Check.same("before it", radio.book(1, 60, 0), 0);
        Check.same("its price", radio.spot(0, 0, 2), 50 + 60);
        Check.same("before both", radio.book(3, 12, 0), 0);
        Check.same("its price", radio.spot(0, 0, 2), 650 + 12 + 1);
        Check.row("the places", radio, 0, 3, 1, 0);
        Check.same("the income", radio.income(), 10 + 5 + 110 + 663);

        Sentences.name(21, "A spot has a sponsor and seconds (5 to 60).");
        AdBreaks ends = Check.loaded(Check.full());
        ends.book(0, 5, 19);
        ends.book(7, 60, 19);
        Check.same("5 seconds", ends.spot(19, 1, 1), 5);
        Check.same("the first sponsor", ends.spot(19, 1, 0), 0);
        Check.same("60 seconds", ends.spot(19, 0, 1), 60);
        Check.same("the last sponsor", ends.spot(19, 0, 0), 7);
        Check.badArgument("4 seconds", () -> ends.book(1, 4, 0));
        Check.badArgument("61 seconds", () -> ends.book(1, 61, 0));
        QueryBounds.spotArguments(21, AdBreaks::book);
    }

    private static void bookRefused() {
        Sentences.name(21, "Returns the place at which it stands; or minus the reason, if it is refused (nothing is booked then).");
        Check.same("the first place", QueryBounds.rowOf("ban 0 1;", 0, 2, 1, 1).book(3, 5, 0), 0);
        Check.same("the last place of 8", QueryBounds.rowOf("ban 0 1;", 0, 1, 1, 1, 1, 1, 1, 2).book(7, 5, 0), 7);
        AdBreaks radio = Check.loaded("radio;break 0 0 30 9;break 0 1 30 9;break 1 0 30 9;sponsor 0 1;sponsor 0 1;sponsor 0 9;sponsor 1 9;ban 0 0;");
        radio.book(0, 20, 0);
        radio.book(1, 20, 1);
        refused(radio, 2, 0, 10, 0);
        refused(radio, 3, 1, 10, 0);
        refused(radio, 4, 2, 11, 0);
        refused(radio, 5, 2, 10, 0);
        radio.air();
        radio.cancel(1);
        refused(radio, 1, 3, 5, 0);
        refused(radio, 1, 3, 5, 1);
    }

    private static void refused(AdBreaks radio, int reason, int sponsor, int seconds, int index) {
        String before = Check.picture(radio);
        Check.same("the reason", radio.reason(sponsor, seconds, index), reason);
        Check.same("book with the reason " + reason, radio.book(sponsor, seconds, index), -reason);
        Check.samePicture("book with the reason " + reason, radio, before);
        Check.same("bookAnyhow with the reason " + reason, radio.bookAnyhow(sponsor, seconds, index), -reason);
        Check.samePicture("bookAnyhow with the reason " + reason, radio, before);
    }

    private static void spotsOfOneBreak() {
        Sentences.name(21, "All spots of a break together have at most as many seconds as the break.");
        AdBreaks radio = Check.loaded("radio;break 0 0 300 9;break 1 0 10 9;break 2 0 64 9;" + "sponsor 0 9;".repeat(8));
        for (int sponsor = 0; sponsor < 4; sponsor++) {
            Check.same("60 seconds of sponsor " + sponsor, radio.book(sponsor, 60, 0), 0);
        }
        Check.same("60 that are left", radio.book(4, 60, 0), 0);
        Check.same("none are left", radio.book(5, 5, 0), -4);
        Check.same("11 of 10", radio.book(0, 11, 1), -4);
        Check.same("10 of 10", radio.book(0, 10, 1), 0);
        Check.same("60 of 64", radio.book(0, 60, 2), 0);
        Check.same("5 of 4", radio.book(1, 5, 2), -4);
        Check.same("5 of 4 anyhow", radio.bookAnyhow(1, 5, 2), -4);
        Check.same("5 of 4 in a campaign", radio.campaign(5, 5, 20), 0);
        radio.cancel(1);
        Check.same("10 of 4 made good", radio.makeGood(), 0);
        Check.same("together", radio.breakOf(0, 6), 300);
        Check.same("together", radio.breakOf(2, 6), 60);

        Sentences.name(21, "No two spots of a break have the same sponsor.");
        AdBreaks same = Check.loaded("radio;break 0 0 300 9;break 1 0 300 9;sponsor 0 9;");
        same.book(0, 5, 0);
        Check.same("a second one", same.book(0, 5, 0), -2);
        Check.same("a second one anyhow", same.bookAnyhow(0, 5, 0), -2);
        Check.same("a campaign", same.campaign(0, 5, 20), 1);
        same.cancel(1);
        Check.same("made good", same.makeGood(), 0);
        Check.row("one", same, 0, 0);
        same.remove(0, 0);
        Check.same("when it is gone", same.makeGood(), 1);
    }

    private static void bookAnyhowLikeBook() {
        Sentences.name(22, "Books a spot like book;");
        AdBreaks radio = Check.loaded("radio;price seconds+used;break 0 0 20 9;break 0 1 10 9;break 1 0 10 9;"
            + "sponsor 1 9;sponsor 2 9;sponsor 1 9;sponsor 0 1;ban 0 1;");
        Check.same("into an empty break", radio.bookAnyhow(2, 5, 0), 0);
        Check.same("before another", radio.bookAnyhow(1, 5, 0), 0);
        Check.same("before two", radio.bookAnyhow(0, 5, 0), 0);
        Check.same("its price", radio.spot(0, 0, 2), 15);
        Check.same("the income", radio.income(), 5 + 10 + 15);
        Check.same("an arrangement is there", radio.arrangements(15) > 0, true);
        refused(radio, 4, 3, 6, 0);
        radio.book(3, 5, 1);
        refused(radio, 3, 3, 5, 0);
        refused(radio, 2, 0, 5, 0);
        radio.air();
        refused(radio, 1, 3, 5, 0);

        AdBreaks stays = QueryBounds.rowOf("ban 0 1;", 0, 1, 2, 1, 2);
        Check.same("a place that is free", stays.bookAnyhow(4, 5, 0), 4);
        Check.row("the order stays", stays, 0, 0, 1, 2, 3, 4);
        AdBreaks unsorted = Check.loaded(Check.full());
        unsorted.bookAnyhow(0, 5, 0);
        unsorted.bookAnyhow(5, 5, 0);
        Check.row("the order stays, although it is not the first arrangement", unsorted, 0, 5, 0);
    }

    private static void bookAnyhowInOrder() {
        Sentences.name(22, "but if the only reason against it is 5, and there is an arrangement of the sponsors of the spots of"
            + " the break and this one, it is booked all the same, and all spots of the break are put into the order of the first such arrangement.");
        AdBreaks first = Check.loaded("radio;price used+seconds;break 0 0 300 1;sponsor 0 9;sponsor 1 9;sponsor 2 9;sponsor 1 9;ban 0 1;");
        first.book(3, 7, 0);
        first.book(2, 8, 0);
        first.book(1, 9, 0);
        Check.same("5 is against it", first.reason(0, 50, 0), 5);
        Check.same("in front", first.bookAnyhow(0, 50, 0), 0);
        int[][] spots = {{0, 50, 74}, {2, 8, 15}, {1, 9, 24}, {3, 7, 7}};
        for (int place = 0; place < 4; place++) {
            for (int what = 0; what < 3; what++) {
                Check.same("spot(0, " + place + ", " + what + ")", first.spot(0, place, what), spots[place][what]);
            }
        }
        Check.same("the income", first.income(), 7 + 15 + 24 + 74);
        Check.same("the seconds", first.breakOf(0, 6), 74);

        AdBreaks middle = Check.loaded("radio;break 0 0 300 1;sponsor 2 9;sponsor 0 9;sponsor 2 9;sponsor 1 9;sponsor 1 9;sponsor 1 9;ban 0 1;");
        for (int sponsor : new int[] {5, 2, 4, 0, 3}) {
            middle.book(sponsor, 5, 0);
        }
        Check.row("before", middle, 0, 3, 0, 4, 2, 5);
        Check.same("in the middle", middle.bookAnyhow(1, 5, 0), 1);
        Check.row("in the middle", middle, 0, 0, 1, 2, 3, 4, 5);

        AdBreaks last = QueryBounds.rowOf("ban 0 1;", 0, 1, 1, 1, 2, 1, 1, 1);
        Check.same("the last of 8", last.bookAnyhow(7, 5, 0), 7);
        Check.row("the last of 8", last, 0, 0, 1, 2, 4, 5, 6, 3, 7);

        AdBreaks none = QueryBounds.rowOf("ban 0 1;", 0, 1, 1, 1);
        String before = Check.picture(none);
        Check.same("there is no arrangement", none.bookAnyhow(3, 5, 0), -5);
        Check.samePicture("there is no arrangement", none, before);
        AdBreaks others = Check.loaded("radio;break 0 0 60 1;break 0 1 60 1;sponsor 2 9;sponsor 1 9;sponsor 0 9;ban 0 1;");
        others.book(1, 5, 0);
        others.book(0, 5, 1);
        Check.same("spots of other breaks do not count", others.bookAnyhow(2, 5, 0), -5);
        others.book(0, 5, 0);
        others.remove(0, 0);
        Check.same("nor do spots that were removed from the front", others.bookAnyhow(2, 5, 0), -5);
        AdBreaks gone = QueryBounds.rowOf("ban 0 1;", 0, 1, 2);
        gone.remove(0, 1);
        Check.same("nor do spots that were removed from the end", gone.bookAnyhow(2, 5, 0), -5);
    }

    private static void bookAnyhowArguments() {
        QueryBounds.spotArguments(22, AdBreaks::bookAnyhow);
        Sentences.name(22, "Returns the place at which the new spot stands; or minus the reason, if it is refused (nothing is booked then).");
        AdBreaks radio = QueryBounds.rowOf("ban 0 1;", 0, 1, 2, 1);
        Check.same("a new order", radio.bookAnyhow(3, 5, 0), 3);
        Check.row("a new order", radio, 0, 0, 2, 1, 3);
        Check.same("it is there", radio.bookAnyhow(3, 5, 0), -2);
        AdBreaks fives = QueryBounds.rowOf("ban 0 0;", 0, 0);
        refused(fives, 5, 1, 5, 0);
    }

    private static void removeRefund() {
        Sentences.name(23, "Removes a spot from an open break; half of its price (the quotient) is a refund.");
        int[] prices = {0, 1, 2, 3, 998, 999, 99998, 99999};
        for (int price : prices) {
            AdBreaks radio = Check.loaded("radio;price 9999*10+9-" + (99999 - price) / 99 + "*99-" + (99999 - price) % 99
                + ";break 0 0 10 1;sponsor 0 9;");
            radio.book(0, 10, 0);
            Check.same("a price", radio.income(), price);
            Check.same("the refund of " + price, radio.remove(0, 0), price / 2);
            Check.same("the income after the refund of " + price, radio.income(), price - price / 2);
            Check.row("none is left", radio, 0);
        }

        Sentences.name(23, "- `index`: index of a break");
        AdBreaks full = Check.loaded(Check.full());
        for (int sponsor = 0; sponsor < 8; sponsor++) {
            full.book(sponsor, 5 * sponsor + 5, 19);
        }
        Check.same("the last", full.remove(19, 7), 9 / 2);
        Check.row("the last", full, 19, 7, 6, 5, 4, 3, 2, 1);
        Sentences.name(23, "- `place`: place of a spot of it");
        Check.same("the first", full.remove(19, 0), 76 / 2);
        Check.row("the first", full, 19, 6, 5, 4, 3, 2, 1);
        Check.same("between", full.remove(19, 2), 47 / 2);
        Check.row("between", full, 19, 6, 5, 3, 2, 1);
        Sentences.name(23, "Returns the refund.");
        Check.same("not that of the spot behind it", full.remove(19, 0), 66 / 2);
        Check.same("the income", full.income(), 340 - 4 - 38 - 23 - 33);
    }

    private static void removeBetween() {
        Sentences.name(23, "If the spots beside it would break a ban when they follow each other, the spot cannot be removed.");
        AdBreaks three = QueryBounds.rowOf("ban 1 0;", 9, 0, 2, 1);
        Check.badState("between two", () -> three.remove(0, 1));
        Check.row("it stays", three, 0, 0, 1, 2);
        Check.same("in front", three.remove(0, 0), 0);
        Check.same("it is in front now", three.remove(0, 0), 0);
        Check.same("alone", three.remove(0, 0), 0);
        AdBreaks behind = QueryBounds.rowOf("ban 1 0;", 9, 0, 2, 1);
        Check.same("behind", behind.remove(0, 2), 0);
        Check.same("behind now", behind.remove(0, 1), 0);
        AdBreaks same = QueryBounds.rowOf("ban 0 0;", 9, 0, 2, 0);
        Check.badState("between two of one category", () -> same.remove(0, 1));
        AdBreaks two = QueryBounds.rowOf("ban 0 1;", 9, 0, 2, 2, 1);
        Check.same("one of two between", two.remove(0, 1), 0);
        Check.badState("the other one", () -> two.remove(0, 1));
        AdBreaks seven = QueryBounds.rowOf("ban 0 1;", 9, 2, 2, 2, 0, 2, 1, 2);
        Check.badState("between in a long row", () -> seven.remove(0, 4));
        Check.same("the one before it", seven.remove(0, 3), 0);
        Check.same("then it can be removed", seven.remove(0, 3), 0);
    }

    private static void removeThrows() {
        QueryBounds.noBreak(23, (radio, index) -> radio.remove(index, 0));
        Sentences.name(23, "Throws `NoSuchElementException` if there is no such spot");
        AdBreaks radio = Check.loaded("radio;break 0 0 60 1;break 0 1 60 1;break 0 2 60 1;break 0 3 60 1;sponsor 0 9;sponsor 2 9;"
            + "sponsor 1 9;ban 0 1;");
        for (int index : new int[] {0, 3}) {
            radio.book(0, 5, index);
            radio.book(1, 5, index);
            radio.book(2, 5, index);
        }
        for (int place : new int[] {-1, 3, FAR, FAR_BELOW}) {
            Check.noElement("place " + place + " of three", () -> radio.remove(0, place));
        }
        Check.noElement("place 0 of none", () -> radio.remove(1, 0));

        Sentences.name(23, "Throws `IllegalStateException` if the break is not open, or if a ban would be broken");
        Check.badState("a ban", () -> radio.remove(3, 1));
        radio.air();
        Check.badState("aired", () -> radio.remove(0, 0));
        Check.badState("aired, and a ban", () -> radio.remove(0, 1));
        Check.same("another one is open", radio.remove(3, 0), 0);

        Sentences.name(23, FIRST_LISTED);
        radio.air();
        radio.cancel(3);
        Check.outOfBounds("break and place", () -> radio.remove(4, -1));
        Check.noElement("place of an aired break", () -> radio.remove(0, 3));
        Check.noElement("place of an aired break without spots", () -> radio.remove(1, 0));
        Check.noElement("place of a cancelled break", () -> radio.remove(3, 0));
    }

    private static void air() {
        Sentences.name(24, "Airs the earliest open break.");
        AdBreaks radio = Check.loaded(Check.full());
        radio.cancel(0);
        radio.cancel(2);
        for (int index : new int[] {1, 3, 4}) {
            Check.same("it is open", radio.breakOf(index, 4), 0);
            radio.air();
            Check.same("it is aired", radio.breakOf(index, 4), 1);
            Check.same("the next one is open", radio.breakOf(index == 1 ? 3 : index + 1, 4), 0);
        }
        Check.same("cancelled ones stay so", radio.breakOf(0, 4) + radio.breakOf(2, 4), 4);
        Sentences.name(24, "Of several breaks of which one is to be chosen, the earliest one counts, unless something else is said.");
        AdBreaks days = Check.loaded("radio;break 1 0 10 1;break 0 23 10 2;break 0 22 10 3;");
        days.air();
        Check.same("the earliest hour of the earliest day", days.breakOf(0, 4), 1);
        Check.same("not the first that was told", days.breakOf(2, 4), 0);

        Sentences.name(24, "Returns the number of its spots.");
        AdBreaks spots = Check.loaded(Check.full());
        for (int sponsor = 0; sponsor < 8; sponsor++) {
            spots.book(sponsor, 5, 0);
        }
        spots.book(0, 5, 1);
        Check.same("8", spots.air(), 8);
        Check.same("one", spots.air(), 1);
        Check.same("none", spots.air(), 0);
        Check.row("they stay", spots, 1, 0);

        Sentences.name(24, "Throws `IllegalStateException` if no break is open");
        Check.badState("with nothing loaded", () -> new AdBreaks().air());
        Check.badState("without breaks", () -> Check.loaded("radio;sponsor 0 1;").air());
        for (int index = 3; index < 19; index++) {
            Check.same("one is open still", spots.air(), 0);
        }
        Check.same("the last one", spots.air(), 0);
        Check.badState("all are aired", () -> spots.air());
        AdBreaks cancelled = Check.loaded("radio;break 0 0 10 1;break 0 1 10 1;");
        cancelled.air();
        cancelled.cancel(1);
        Check.badState("aired and cancelled", () -> cancelled.air());
    }

    private static void cancel() {
        Sentences.name(25, "Cancels an open break.");
        AdBreaks radio = Check.loaded("radio;price 7;break 0 0 300 0;break 0 1 300 999;break 0 2 300 5;" + "sponsor 0 9;".repeat(8));
        Check.same("without spots", radio.cancel(2), 0);
        Check.same("cancelled", radio.breakOf(2, 4), 2);
        Check.same("the others are open", radio.breakOf(0, 4) + radio.breakOf(1, 4), 0);

        Sentences.name(25, "When a break is cancelled, each of its spots, in the order of the places, is put at the end of the list of owed spots,"
            + " with the audience of the break as its least audience;");
        for (int sponsor = 0; sponsor < 8; sponsor++) {
            radio.book(sponsor, 5 + sponsor, 1);
        }
        radio.book(3, 60, 0);
        Check.same("the later one first", radio.cancel(1), 8);
        Check.same("the earlier one then", radio.cancel(0), 9);
        for (int index = 0; index < 9; index++) {
            Check.same("the sponsor of " + index, radio.owedSpot(index, 0), index < 8 ? 7 - index : 3);
            Check.same("the seconds of " + index, radio.owedSpot(index, 1), index < 8 ? 12 - index : 60);
            Check.same("the price of " + index, radio.owedSpot(index, 2), 7);
            Check.same("the least audience of " + index, radio.owedSpot(index, 3), index < 8 ? 999 : 0);
        }

        Sentences.name(25, "the prices stay in the income, and the cancelled break has no spots any more.");
        Check.same("the income", radio.income(), 9 * 7);
        for (int index = 0; index < 3; index++) {
            Check.row("break " + index, radio, index);
            Check.same("seconds", radio.breakOf(index, 6), 0);
        }
        Check.noElement("no spot", () -> radio.spot(1, 0, 0));

        Sentences.name(25, "Returns the number of owed spots then.");
        AdBreaks owed = Check.loaded(Check.full());
        Check.same("none", owed.cancel(0), 0);
        owed.book(0, 5, 1);
        owed.book(0, 5, 2);
        Check.same("one", owed.cancel(1), 1);
        Check.same("two", owed.cancel(2), 2);
        Check.same("still two", owed.cancel(3), 2);
        owed.makeGood();
        Check.same("all are made good", owed.cancel(6), 0);
    }

    private static void cancelThrows() {
        Sentences.name(25, "- `index`: index of a break");
        AdBreaks radio = Check.loaded(Check.full());
        Check.same("the last", radio.cancel(19), 0);
        Check.same("the first", radio.cancel(0), 0);
        QueryBounds.noBreak(25, AdBreaks::cancel);
        Sentences.name(25, "Throws `IllegalStateException` if it is not open");
        Check.badState("cancelled", () -> radio.cancel(0));
        Check.badState("cancelled", () -> radio.cancel(19));
        radio.air();
        Check.badState("aired", () -> radio.cancel(1));
        Check.same("open", radio.cancel(2), 0);
        Check.badState("no longer", () -> radio.cancel(2));
    }

    private static void makeGood() {
        Sentences.name(26, "Makes good.");
        AdBreaks none = Check.loaded(Check.full());
        String before = Check.picture(none);
        Check.same("nothing is owed", none.makeGood(), 0);
        Check.samePicture("nothing is owed", none, before);
        Check.same("with nothing loaded", new AdBreaks().makeGood(), 0);

        Sentences.name(26, "To make good means: the owed spots are gone through in their order;");
        AdBreaks order = Check.loaded("radio;break 0 0 60 9;break 1 0 15 9;sponsor 0 9;sponsor 1 9;sponsor 2 9;");
        order.book(2, 10, 0);
        order.book(1, 6, 0);
        order.book(0, 11, 0);
        order.cancel(0);
        Check.same("the first of them takes the room", order.makeGood(), 1);
        Check.row("the first of them", order, 1, 0);
        order.remove(1, 0);
        Check.same("the second one then", order.makeGood(), 1);
        Check.row("the second one then", order, 1, 1);

        Sentences.name(26, "each one is put into the earliest open break that does not refuse it and has at least its least"
            + " audience (if there is one), with the price that it has, and is then no longer owed;");
        AdBreaks radio = Check.loaded("radio;price seconds*hour;break 0 1 60 500;break 0 2 60 499;break 0 3 60 500;"
            + "break 1 4 60 501;break 1 9 60 500;sponsor 0 9;sponsor 1 9;");
        radio.book(0, 10, 4);
        radio.cancel(4);
        radio.air();
        int income = radio.income();
        Check.same("one", radio.makeGood(), 1);
        Check.row("aired", radio, 0);
        Check.row("one less than its least audience", radio, 1);
        Check.row("just its least audience", radio, 2, 0);
        Check.same("its price", radio.spot(2, 0, 2), 90);
        Check.same("its seconds", radio.spot(2, 0, 1), 10);
        Check.same("the income", radio.income(), income);
        Check.same("no longer owed", radio.owed(), 0);
        radio.cancel(2);
        Check.same("again, but not into a cancelled one", radio.makeGood(), 1);
        Check.row("one more than its least audience", radio, 3, 0);
        radio.cancel(3);
        Check.same("the least audience of the latest break", radio.owedSpot(0, 3), 501);
        Check.same("there is none", radio.makeGood(), 0);
        Check.same("it is still owed", radio.owed(), 1);
    }

    private static void makeGoodRefused() {
        Sentences.name(26, "Of several breaks of which one is to be chosen, the earliest one counts, unless something else is said.");
        AdBreaks early = Check.loaded("radio;break 0 0 60 3;break 0 1 60 9;break 6 0 60 3;sponsor 0 9;");
        early.book(0, 10, 2);
        early.cancel(2);
        early.makeGood();
        Check.row("earlier than the cancelled one, although another is wider", early, 0, 0);

        Sentences.name(26, "Returns the number of spots that are no longer owed.");
        AdBreaks radio = Check.loaded("radio;break 0 0 60 1;break 0 1 60 1;break 0 2 60 1;break 1 0 10 1;"
            + "break 2 0 60 1;break 3 0 60 1;sponsor 0 1;sponsor 1 9;sponsor 0 9;ban 0 1;");
        radio.book(1, 5, 4);
        radio.book(0, 11, 5);
        radio.cancel(5);
        radio.book(0, 5, 1);
        Check.same("refused by the cap, the seconds and a ban", radio.makeGood(), 0);
        radio.setCap(0, 2);
        Check.same("when the cap is larger", radio.makeGood(), 1);
        Check.row("beside nothing", radio, 0, 0);
        AdBreaks full = Check.loaded(Check.full());
        for (int sponsor = 0; sponsor < 8; sponsor++) {
            full.book(sponsor, 5, 0);
        }
        full.cancel(0);
        Check.same("all 8", full.makeGood(), 8);
        Check.row("all 8, each at the smallest place", full, 1, 0, 1, 2, 3, 4, 5, 6, 7);

        AdBreaks twice = Check.loaded("radio;break 0 0 60 1;break 0 1 60 1;break 1 0 60 1;break 1 1 60 1;sponsor 0 2;");
        twice.campaign(0, 10, 2);
        twice.cancel(0);
        twice.cancel(1);
        twice.setCap(0, 1);
        Check.same("those made good before count for the cap", twice.makeGood(), 1);
        twice.setCap(0, 2);
        Check.same("but into another break", twice.makeGood(), 1);
        Check.row("the first", twice, 2, 0);
        Check.row("the second", twice, 3, 0);
    }

    private static void makeGoodOthers() {
        Sentences.name(26, "the others stay in the list, in their order.");
        AdBreaks radio = Check.loaded("radio;price hour+seconds;break 0 1 60 5;break 0 2 60 7;break 0 3 60 6;break 1 0 60 6;"
            + "sponsor 0 9;sponsor 1 9;sponsor 2 9;sponsor 3 9;");
        radio.book(0, 10, 1);
        radio.book(1, 11, 2);
        radio.book(2, 12, 1);
        radio.book(3, 13, 0);
        radio.cancel(1);
        radio.cancel(2);
        radio.cancel(0);
        Check.same("two of four", radio.makeGood(), 2);
        Check.row("those", radio, 3, 3, 1);
        int[][] due = {{2, 12, 14, 7}, {0, 10, 12, 7}};
        for (int index = 0; index < 2; index++) {
            for (int what = 0; what < 4; what++) {
                Check.same("owedSpot(" + index + ", " + what + ")", radio.owedSpot(index, what), due[index][what]);
            }
        }
        Check.same("two are left", radio.owed(), 2);
        Check.same("none of them", radio.makeGood(), 0);

        AdBreaks all = Check.loaded(Check.full());
        for (int sponsor = 0; sponsor < 8; sponsor++) {
            all.campaign(sponsor, 5, 20);
        }
        for (int index = 0; index < 20; index++) {
            all.cancel(index);
        }
        String before = Check.picture(all);
        Check.same("160 that stay", all.makeGood(), 0);
        Check.samePicture("160 that stay", all, before);
    }

    private static void campaign() {
        Sentences.name(27, "Books spots of a sponsor one after the other, each as book does in the break that cheapest tells"
            + " then, until it tells none, but at most a number of times.");
        AdBreaks all = Check.loaded(Check.full());
        Check.same("all breaks", all.campaign(7, 60, 20), 20);
        Check.same("the income", all.income(), 6 * 190);
        AdBreaks three = Check.loaded(Check.full());
        Check.same("at most three", three.campaign(0, 60, 3), 3);
        for (int index = 0; index < 20; index++) {
            Check.same("spots of break " + index, three.breakOf(index, 5), index < 3 ? 1 : 0);
        }
        AdBreaks then = Check.loaded("radio;price audience+spots*hour*10;break 0 1 60 1;break 1 1 60 2;break 2 0 60 9;sponsor 0 9;");
        Check.same("the first makes the second dearer", then.campaign(0, 10, 2), 2);
        Check.row("the cheapest at first", then, 0, 0);
        Check.row("not the second of then", then, 1);
        Check.row("the cheapest then", then, 2, 0);
        Check.same("their prices", then.income(), 1 + 9);
        AdBreaks places = QueryBounds.rowOf("ban 0 1;", 0, 1, 2);
        Check.same("at the place where book puts it", places.campaign(2, 5, 1), 1);
        Check.row("at the place where book puts it", places, 0, 0, 1, 2);
        AdBreaks order = QueryBounds.rowOf("ban 0 1;", 0, 1, 2, 1);
        Check.same("not as bookAnyhow does", order.campaign(3, 5, 20), 0);

        Sentences.name(27, "- `most`: 1 to 20");
        Check.same("1", Check.loaded(Check.full()).campaign(0, 5, 1), 1);
        Check.same("19", Check.loaded(Check.full()).campaign(0, 5, 19), 19);
        Check.same("20", Check.loaded(Check.full()).campaign(0, 5, 20), 20);
        Sentences.name(27, "- `seconds`: 5 to 60");
        Check.same("5", Check.loaded(Check.full()).campaign(0, 5, 2), 2);
        Check.same("60", Check.loaded(Check.full()).campaign(0, 60, 2), 2);
        Sentences.name(27, "- `sponsor`: index of a sponsor");
        Check.same("the last", Check.loaded(Check.full()).campaign(7, 5, 2), 2);

        Sentences.name(27, "Returns the number of spots that were booked.");
        Check.same("none are left", all.campaign(7, 5, 20), 0);
        Check.same("no breaks", Check.loaded("radio;sponsor 0 1;").campaign(0, 5, 20), 0);
        AdBreaks cap = Check.loaded("radio;break 0 0 60 1;break 0 1 60 1;break 0 2 60 1;break 1 0 60 1;sponsor 0 2;");
        Check.same("two of one day and one of the other", cap.campaign(0, 5, 20), 3);
        AdBreaks closed = Check.loaded("radio;break 0 0 60 1;break 0 1 60 1;break 0 2 10 1;sponsor 0 9;");
        closed.air();
        Check.same("one is aired, one is too short", closed.campaign(0, 11, 20), 1);
    }

    private static void campaignThrows() {
        QueryBounds.noSponsor(27, (radio, sponsor) -> radio.campaign(sponsor, 5, 1));
        Sentences.name(27, "Throws `IllegalArgumentException` if seconds or most is out of range");
        AdBreaks radio = Check.loaded(Check.full());
        QueryBounds.badSeconds(radio, (r, seconds) -> r.campaign(0, seconds, 1));
        for (int most : new int[] {-1, 0, 21, FAR, FAR_BELOW}) {
            Check.badArgument("most " + most, () -> radio.campaign(0, 5, most));
        }
        Sentences.name(27, FIRST_LISTED);
        Check.outOfBounds("sponsor and seconds", () -> radio.campaign(8, 4, 1));
        Check.outOfBounds("sponsor and most", () -> radio.campaign(-1, 5, 21));
        Check.badArgument("seconds and most", () -> radio.campaign(0, 61, 0));
    }

    private static void setCap() {
        Sentences.name(28, "Sets the cap of a sponsor. Spots that are there stay.");
        AdBreaks radio = Check.loaded(Check.full());
        radio.campaign(7, 5, 20);
        radio.setCap(7, 1);
        Check.same("the cap", radio.sponsor(7, 1), 1);
        Check.same("of another one", radio.sponsor(6, 1), 9);
        Check.same("the spots", radio.sponsor(7, 2), 20);
        Check.same("of a day", radio.spotsOn(7, 0), 3);
        radio.remove(0, 0);
        Check.same("still refused", radio.reason(7, 5, 0), 3);
        radio.setCap(7, 3);
        Check.same("no longer refused", radio.reason(7, 5, 0), 0);
        Sentences.name(28, "- `sponsor`: index of a sponsor");
        Check.same("the first", radio.setCap(0, 1), 9);
        Check.same("the last", radio.setCap(7, 9), 3);
        Sentences.name(28, "- `cap`: 1 to 9");
        Check.same("1", radio.setCap(0, 1), 1);
        Check.same("9", radio.setCap(0, 9), 1);
        Check.same("as it was set", radio.sponsor(0, 1), 9);
        Sentences.name(28, "Returns the previous cap.");
        Check.same("that of the text", Check.loaded("radio;sponsor 0 4;").setCap(0, 7), 4);
        Check.same("the same again", radio.setCap(0, 9), 9);
        Check.same("and again", radio.setCap(0, 9), 9);
        QueryBounds.noSponsor(28, (r, sponsor) -> r.setCap(sponsor, 1));
        Sentences.name(28, "Throws `IllegalArgumentException` if cap is out of range");
        for (int cap : new int[] {-1, 0, 10, FAR, FAR_BELOW}) {
            Check.badArgument("cap " + cap, () -> radio.setCap(0, cap));
        }
        Sentences.name(28, FIRST_LISTED);
        Check.outOfBounds("sponsor and cap", () -> radio.setCap(8, 0));
    }

    /** A radio for which each change has an effect: 4 changes, with one break aired, one cancelled and one spot owed. */
    private static AdBreaks busy() {
        AdBreaks radio = Check.loaded("radio;price used+seconds;break 0 0 60 5;break 1 0 60 5;break 2 0 60 6;break 3 0 60 7;"
            + "sponsor 1 9;sponsor 2 9;sponsor 1 9;sponsor 0 9;ban 0 1;");
        radio.air();
        radio.book(0, 10, 1);
        radio.cancel(1);
        return radio;
    }

    private static void changes() {
        Sentences.name(29, "The changing methods are load (when it succeeds), book, bookAnyhow, remove, air, cancel, makeGood, campaign and setCap;");
        AdBreaks radio = busy();
        radio.book(2, 5, 3);
        radio.book(1, 6, 3);
        radio.book(0, 7, 3);
        undone("load", radio, r -> Check.load(r, "radio;ban 9 9;price 1;break 4 4 44 4;sponsor 5 5;"));
        undone("book", radio, r -> r.book(1, 5, 2));
        undone("bookAnyhow", radio, r -> r.bookAnyhow(3, 5, 3));
        undone("remove", radio, r -> r.remove(3, 0));
        undone("air", radio, AdBreaks::air);
        undone("cancel", radio, r -> r.cancel(3));
        undone("makeGood", radio, AdBreaks::makeGood);
        undone("campaign", radio, r -> r.campaign(1, 5, 20));
        undone("setCap", radio, r -> r.setCap(3, 1));
    }

    interface Change {
        int of(AdBreaks radio);
    }

    /** The radio has 7 changes to undo. */
    private static void undone(String call, AdBreaks radio, Change change) {
        String before = Check.picture(radio);
        Check.same(call, change.of(radio) >= 0, true);
        Check.same(call + " has an effect", Check.picture(radio).equals(before), false);
        Check.same("undo of " + call, radio.undo(), 7);
        Check.samePicture("undo of " + call, radio, before);
    }

    private static void changesWithoutEffect() {
        Sentences.name(29, "each such call that does not throw an exception is a change, also if all data stay as they were.");
        String text = "radio;break 0 0 60 5;break 0 1 60 6;sponsor 0 1;sponsor 1 9;ban 0 1;";
        AdBreaks radio = Check.loaded(text);
        radio.book(0, 5, 0);
        withoutEffect("book", radio, r -> r.book(0, 5, 0), -2);
        withoutEffect("book", radio, r -> r.book(1, 5, 0), -5);
        withoutEffect("bookAnyhow", radio, r -> r.bookAnyhow(0, 5, 1), -3);
        withoutEffect("bookAnyhow", radio, r -> r.bookAnyhow(1, 5, 0), -5);
        withoutEffect("makeGood", radio, AdBreaks::makeGood, 0);
        withoutEffect("campaign", radio, r -> r.campaign(0, 5, 20), 0);
        withoutEffect("setCap", radio, r -> r.setCap(1, 9), 9);
        AdBreaks fresh = Check.loaded("radio;");
        fresh.makeGood();
        withoutEffect("load", fresh, r -> Check.load(r, "radio;"), 0);
        AdBreaks empty = new AdBreaks();
        Check.same("makeGood with nothing loaded", empty.makeGood(), 0);
        Check.same("its undo", empty.undo(), 0);
        Check.same("no more", empty.undo(), -1);
    }

    /** The radio has two changes to undo. */
    private static void withoutEffect(String call, AdBreaks radio, Change change, int due) {
        String before = Check.picture(radio);
        Check.same(call, change.of(radio), due);
        Check.samePicture(call, radio, before);
        Check.same("undo of " + call, radio.undo(), 2);
        Check.samePicture("undo of " + call, radio, before);
    }

    private static void noChanges() {
        Sentences.name(29, "Undoes the latest change that has not been undone.");
        AdBreaks radio = busy();
        String before = Check.picture(radio);
        radio.setCap(0, 1);
        radio.append(0, 0, 0, 0, 0);
        Check.same("a load with an error is no change", radio.load(20), AdBreaks.SYNTAX_ERROR);
        Check.badState("a call that throws is no change", () -> radio.cancel(1));
        Check.picture(radio);
        Check.same("a query is no change", radio.cheapest(0, 5), 2);
        Check.same("nor is this one", radio.widest(0, 5), 3);
        Check.same("nor is this one", radio.arrangements(15), 4);
        Check.same("nor is this one", radio.arranged(15, 3), 3);
        Check.same("the latest change", radio.undo(), 4);
        Check.samePicture("the latest change", radio, before);
        Check.same("undo is no change", radio.undo(), 3);
        Check.same("the one before", radio.breakOf(1, 4), 0);
        Check.same("another change", radio.setCap(0, 2), 9);
        Check.same("is the latest one then", radio.undo(), 3);
        Check.same("the next one", radio.undo(), 2);
        Check.same("the book is undone", radio.income(), 0);
    }

    private static void latestEight() {
        Sentences.name(29, "The latest 8 changes that have not been undone can be undone, the latest one first.");
        for (int changes = 1; changes <= 20; changes++) {
            AdBreaks radio = new AdBreaks();
            Check.load(radio, "radio;sponsor 0 9;");
            for (int cap = 1; cap < changes; cap++) {
                radio.setCap(0, cap % 9 + 1);
            }
            int most = Math.min(changes, 8);
            for (int left = most - 1; left >= 0; left--) {
                Check.same("undo of " + changes + " changes", radio.undo(), left);
                int cap = changes - most + left;
                Check.same("sponsors after it", radio.sponsors(), cap == 0 ? 0 : 1);
                Check.same("the cap after it", cap == 0 ? 0 : radio.sponsor(0, 1), cap == 0 ? 0 : cap == 1 ? 9 : (cap - 1) % 9 + 1);
            }
            Check.same("no more of " + changes + " changes", radio.undo(), -1);
        }
        AdBreaks again = Check.loaded("radio;sponsor 0 9;");
        for (int change = 0; change < 9; change++) {
            again.setCap(0, 9 - change);
        }
        Check.same("the latest of 10", again.undo(), 7);
        again.setCap(0, 7);
        Check.same("another one in its place", again.undo(), 7);
        for (int left = 6; left >= 0; left--) {
            Check.same("the others", again.undo(), left);
        }
        Check.same("those before stay", again.undo(), -1);
        Check.same("the cap of then", again.sponsor(0, 1), 9);
    }

    private static void undo() {
        Sentences.name(29, "The input buffer and the error offset are not affected.");
        AdBreaks radio = new AdBreaks();
        Check.load(radio, "radio;sponsor 0 9;");
        Check.load(radio, "radio;oh;");
        radio.setCap(0, 1);
        Check.append(radio, "radio;sponsor 3 4;");
        Check.same("undo", radio.undo(), 1);
        Check.same("the error offset", radio.errorOffset(), 6);
        Check.same("undo of the load", radio.undo(), 0);
        Check.same("the error offset", radio.errorOffset(), 6);
        Check.badArgument("the buffer is not longer", () -> radio.load(21));
        Check.same("the buffer is not shorter", radio.load(20), 0);
        Check.same("the bytes of the buffer", radio.sponsor(0, 1), 4);
        Check.same("the error offset of the latest load", radio.errorOffset(), -1);
        radio.undo();
        Check.same("no error of an earlier load comes back", radio.errorOffset(), -1);
        Check.badArgument("no bytes of an earlier buffer come back", () -> radio.load(1));

        Sentences.name(29, "Returns the number of changes that can still be undone; -1 if there was none to undo, and nothing changes then.");
        AdBreaks none = new AdBreaks();
        Check.same("with nothing loaded", none.undo(), -1);
        Check.same("again", none.undo(), -1);
        Check.load(none, "radio;sponsor 0 1;");
        Check.same("the load", none.undo(), 0);
        Check.same("no sponsors", none.sponsors(), 0);
        Check.same("no more", none.undo(), -1);
        AdBreaks last = busy();
        for (int change = 0; change < 8; change++) {
            last.setCap(0, change + 1);
        }
        for (int left = 7; left >= 0; left--) {
            Check.same("changes left", last.undo(), left);
        }
        String before = Check.picture(last);
        Check.same("none is left", last.undo(), -1);
        Check.samePicture("none is left", last, before);
    }

    private static void throwingChangesNothing() {
        Sentences.name(29, "A method that throws an exception changes nothing.");
        AdBreaks radio = busy();
        radio.book(0, 10, 3);
        radio.bookAnyhow(1, 10, 3);
        radio.bookAnyhow(3, 10, 3);
        Check.load(radio, "radio;?");
        Check.append(radio, "radio;sponsor 3 4;");
        String before = Check.picture(radio);
        Check.row("sponsor 1 stands between two that a ban keeps apart", radio, 3, 3, 1, 0);
        Check.Call[] states = {() -> radio.remove(3, 1), () -> radio.cancel(0), () -> radio.cancel(1)};
        Check.Call[] bounds = {() -> radio.book(4, 5, 2), () -> radio.book(1, 5, 4), () -> radio.bookAnyhow(-1, 5, 2),
            () -> radio.bookAnyhow(1, 5, -1), () -> radio.remove(4, 0), () -> radio.cancel(4), () -> radio.campaign(4, 5, 1),
            () -> radio.setCap(4, 1), () -> radio.breakOf(4, 0), () -> radio.spot(4, 0, 0), () -> radio.sponsor(4, 0),
            () -> radio.spotsOn(4, 0), () -> radio.reason(4, 5, 0), () -> radio.price(4, 5, 0), () -> radio.cheapest(4, 5),
            () -> radio.widest(4, 5), () -> radio.arranged(15, 4)};
        Check.Call[] arguments = {() -> radio.load(-1), () -> radio.load(21), () -> radio.book(1, 4, 2), () -> radio.bookAnyhow(1, 61, 2),
            () -> radio.campaign(1, 5, 0), () -> radio.campaign(1, 61, 1), () -> radio.setCap(1, 0), () -> radio.setCap(1, 10),
            () -> radio.isBanned(0, 10) ? 1 : 0, () -> radio.arrangements(16), () -> radio.arranged(16, 0), () -> radio.owedSpot(0, 4)};
        Check.Call[] elements = {() -> radio.remove(3, 3), () -> radio.remove(2, 0), () -> radio.spot(0, 0, 0), () -> radio.owedSpot(1, 0)};
        all(radio, IllegalStateException.class, states, before);
        all(radio, IndexOutOfBoundsException.class, bounds, before);
        all(radio, IllegalArgumentException.class, arguments, before);
        all(radio, java.util.NoSuchElementException.class, elements, before);
        Check.same("the error offset", radio.errorOffset(), 6);
        Check.same("the changes to undo", radio.undo(), 6);
        Check.same("the buffer", radio.append(0, 0, 0, 0, 0), 40);
        Check.same("its bytes", radio.load(18) + radio.sponsor(0, 0), 3);
        Check.badState("air", () -> radio.air());
        Check.same("air is no change", radio.undo(), 6);
    }

    private static void all(AdBreaks radio, Class<?> due, Check.Call[] calls, String before) {
        for (int k = 0; k < calls.length; k++) {
            Check.throwing(due.getSimpleName() + " " + k, due, calls[k]);
            Check.samePicture(due.getSimpleName() + " " + k, radio, before);
        }
    }

    private static BigInteger step(BigInteger sum, int number) {
        return sum.multiply(BigInteger.valueOf(31)).add(BigInteger.valueOf(number));
    }

    /** The checksum without any wrapping around. */
    private static BigInteger wholeSum(AdBreaks radio) {
        BigInteger sum = BigInteger.ZERO;
        for (int index = 0; index < radio.breaks(); index++) {
            sum = step(sum, radio.breakOf(index, 4));
            for (int place = 0; place < radio.breakOf(index, 5); place++) {
                for (int what = 0; what <= 2; what++) {
                    sum = step(sum, radio.spot(index, place, what));
                }
            }
        }
        for (int index = 0; index < radio.owed(); index++) {
            for (int what = 0; what <= 3; what++) {
                sum = step(sum, radio.owedSpot(index, what));
            }
        }
        for (int sponsor = 0; sponsor < radio.sponsors(); sponsor++) {
            sum = step(sum, radio.sponsor(sponsor, 1));
        }
        return step(sum, radio.income());
    }

    private static void checksum() {
        Sentences.name(30, "Computes a checksum. It starts at 0; each number n in the following order replaces it by 31 * checksum + n,"
            + " wrapping around on overflow of a long:");
        AdBreaks radio = Check.loaded("radio;price 9999*11;" + Check.full().substring(6));
        boolean negative = false;
        boolean wrapped = false;
        for (int sponsor = 0; sponsor < 8; sponsor++) {
            BigInteger whole = wholeSum(radio);
            Check.same("with " + sponsor + " campaigns", radio.checksum(), whole.longValue());
            wrapped |= whole.bitLength() > 63;
            negative |= radio.checksum() < 0;
            radio.campaign(sponsor, 5, 20);
        }
        for (int index = 0; index < 20; index++) {
            radio.cancel(index);
            Check.same("with " + radio.owed() + " owed spots", radio.checksum(), wholeSum(radio).longValue());
            negative |= radio.checksum() < 0;
        }
        Check.same("it was beyond a long", wrapped, true);
        Check.same("it was negative", negative, true);

        Sentences.name(30, "for each break what breakOf tells of it for 4, and for each of its spots the sponsor, the seconds and the price;"
            + " then for each owed spot what owedSpot tells of it for 0 to 3; then for each sponsor its cap; then income().");
        AdBreaks small = Check.loaded("radio;break 0 0 60 10;break 0 5 60 20;break 1 0 60 30;sponsor 0 9;sponsor 1 8;");
        small.book(0, 10, 1);
        small.book(1, 20, 1);
        small.book(1, 30, 2);
        small.air();
        small.cancel(2);
        long due = 0;
        for (int number : new int[] {1, 0, 1, 20, 40, 0, 10, 20, 2, 1, 30, 90, 30, 9, 8, 150}) {
            due = 31 * due + number;
        }
        Check.same("aired, open and cancelled", small.checksum(), due);

        Sentences.name(30, "Returns the checksum.");
        Check.same("with nothing loaded", new AdBreaks().checksum(), 0);
        Check.same("an open break", Check.loaded("radio;break 0 0 10 1;").checksum(), 0);
        Check.same("a sponsor", Check.loaded("radio;sponsor 0 7;").checksum(), 7 * 31);
        AdBreaks refund = Check.loaded("radio;price 3;break 0 0 10 1;sponsor 0 1;");
        refund.book(0, 10, 0);
        refund.remove(0, 0);
        Check.same("the income after a refund", refund.checksum(), 31 + 2);
        refund.air();
        Check.same("an aired break", refund.checksum(), 31 * 31 + 31 + 2);
    }
}

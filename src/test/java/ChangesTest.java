/** Promises 21 to 30: the changes, undo and the checksum. */
final class ChangesTest {
    private static final String FOUR = "radio;break 0 0 60 10;break 0 5 60 20;break 1 0 60 30;break 1 5 60 40;"
        + "sponsor 0 9;sponsor 1 9;sponsor 2 9;sponsor 0 9;ban 0 1;";

    public static void main(String[] args) {
        book();
        bookAnyhow();
        remove();
        air();
        cancel();
        makeGood();
        makeGoodOfMany();
        campaign();
        setCap();
        undo();
        undoOfEach();
        throwingChangesNothing();
        checksum();
        Check.finish("ChangesTest");
    }

    private static void book() {
        AdBreaks radio = Check.loaded(FOUR);
        Check.same("21 into an empty break", radio.book(0, 10, 0), 0);
        Check.same("21 before another", radio.book(3, 12, 0), 0);
        Check.row("21", radio, 0, 3, 0);
        Check.same("21 refused by a ban", radio.book(1, 10, 0), -5);
        Check.row("21 nothing is booked", radio, 0, 3, 0);
        Check.same("21 the income", radio.income(), 10 + 12);
        Check.same("21 before two others", radio.book(2, 14, 0), 0);
        Check.row("21", radio, 0, 2, 3, 0);
        Check.same("21 its seconds", radio.spot(0, 0, 1), 14);
        Check.same("21 its price", radio.spot(0, 0, 2), 14);
        Check.same("21 there already", radio.book(2, 10, 0), -2);
        Check.same("21 all the seconds", radio.book(0, 60, 1), 0);
        Check.same("21 not enough seconds", radio.book(1, 5, 1), -4);
        Check.same("21 another day", radio.book(1, 10, 2), 0);
        radio.setCap(1, 1);
        Check.same("21 the cap", radio.book(1, 5, 3), -3);
        radio.air();
        Check.same("21 not open", radio.book(1, 5, 0), -1);
        QueriesTest.checkSpotArguments("21 book", radio::book);
        places();
    }

    private static void places() {
        AdBreaks behind = Check.loaded(FOUR);
        behind.book(2, 10, 0);
        behind.book(0, 10, 0);
        Check.same("21 behind all", behind.book(1, 10, 0), 2);
        Check.row("21", behind, 0, 0, 2, 1);

        AdBreaks between = Check.loaded("radio;break 0 0 300 1;sponsor 0 9;sponsor 2 9;sponsor 2 9;sponsor 1 9;ban 0 1;");
        between.book(2, 5, 0);
        between.book(1, 5, 0);
        between.book(0, 5, 0);
        Check.row("21", between, 0, 0, 1, 2);
        Check.same("21 the smallest place of several", between.book(3, 5, 0), 2);
        Check.row("21", between, 0, 0, 1, 3, 2);
    }

    private static void bookAnyhow() {
        AdBreaks radio = Check.loaded("radio;break 0 0 100 10;break 0 1 10 1;break 0 2 10 1;break 0 3 10 1;"
            + "sponsor 0 9;sponsor 1 9;sponsor 2 9;sponsor 0 9;ban 1 0;price seconds+used*2+spots*100;");
        Check.same("22 like book", radio.bookAnyhow(0, 10, 0), 0);
        Check.same("22 there is no arrangement", radio.bookAnyhow(1, 11, 0), -5);
        Check.same("22 like book", radio.bookAnyhow(2, 12, 0), 0);
        Check.same("22 like book", radio.bookAnyhow(3, 13, 0), 0);
        Check.row("22", radio, 0, 3, 2, 0);
        radio.remove(0, 0);
        Check.same("22 in front of all", radio.book(3, 13, 0), 0);
        Check.same("22 is refused by all places", radio.reason(1, 14, 0), 5);
        int before = radio.income();
        Check.same("22 all the same", radio.bookAnyhow(1, 14, 0), 3);
        Check.row("22 in the order of the first arrangement", radio, 0, 0, 3, 2, 1);
        int[][] spots = {{10, 10}, {13, 13 + 44}, {12, 12 + 20}, {14, 14 + 70}};
        for (int place = 0; place < 4; place++) {
            Check.same("22 seconds go with the spot", radio.spot(0, place, 1), spots[place][0]);
            Check.same("22 prices go with the spot", radio.spot(0, place, 2), spots[place][1]);
        }
        Check.same("22 the price as before it was put in", radio.income() - before, 14 + 70);
        Check.same("22 there already", radio.bookAnyhow(1, 10, 0), -2);
        Check.same("22 not enough seconds", radio.bookAnyhow(2, 11, 1), -4);
        radio.setCap(2, 1);
        Check.same("22 the cap", radio.bookAnyhow(2, 10, 1), -3);
        radio.air();
        Check.same("22 not open", radio.bookAnyhow(1, 10, 0), -1);
        QueriesTest.checkSpotArguments("22 bookAnyhow", radio::bookAnyhow);

        AdBreaks without = Check.loaded("radio;break 0 0 100 10;sponsor 1 9;sponsor 0 9;sponsor 1 9;sponsor 2 9;sponsor 0 9;ban 0 1;");
        without.book(1, 10, 0);
        without.book(3, 10, 0);
        without.book(4, 10, 0);
        Check.row("22", without, 0, 4, 3, 1);
        Check.same("22 without the first sponsor", without.bookAnyhow(2, 10, 0), 3);
        Check.row("22 without the first sponsor", without, 0, 1, 4, 3, 2);

        // Book finds place 2 here, although an arrangement would begin with sponsor 1.
        AdBreaks kept = Check.loaded(FOUR);
        kept.book(2, 10, 0);
        kept.book(0, 10, 0);
        Check.same("22 where book would put it", kept.bookAnyhow(1, 10, 0), 2);
        Check.row("22 the order stays", kept, 0, 0, 2, 1);
    }

    private static void remove() {
        AdBreaks radio = Check.loaded("radio;break 0 0 100 15;break 1 0 60 9;sponsor 0 9;sponsor 1 9;sponsor 2 9;ban 0 1;");
        radio.book(0, 10, 0);
        radio.book(2, 10, 0);
        radio.book(1, 11, 0);
        Check.row("23", radio, 0, 1, 2, 0);
        int income = radio.income();
        Check.badState("23 a ban would be broken", () -> radio.remove(0, 1));
        Check.row("23", radio, 0, 1, 2, 0);
        Check.same("23 the quotient of half of 15", radio.remove(0, 2), 7);
        Check.row("23 behind", radio, 0, 1, 2);
        Check.same("23 the refund", radio.income(), income - 7);
        Check.same("23 at the end there is nothing to break", radio.remove(0, 1), 7);
        Check.same("23 the last one", radio.remove(0, 0), 8);
        Check.row("23 none are left", radio, 0);
        Check.same("23 the seconds are free again", radio.reason(0, 60, 0), 0);
        Check.same("23 half of the income stays", radio.income(), income - 22);
        Check.outOfBounds("23 break 2", () -> radio.remove(2, 0));
        Check.outOfBounds("23 break -1", () -> radio.remove(-1, -1));
        Check.noElement("23 place 0 of none", () -> radio.remove(0, 0));
        radio.book(0, 10, 0);
        Check.noElement("23 place -1", () -> radio.remove(0, -1));
        Check.noElement("23 place 1 of one", () -> radio.remove(0, 1));
        radio.air();
        Check.badState("23 aired", () -> radio.remove(0, 0));
        Check.noElement("23 aired, and no such spot", () -> radio.remove(0, 1));
        radio.book(1, 10, 1);
        radio.cancel(1);
        Check.noElement("23 cancelled breaks have no spots", () -> radio.remove(1, 0));

        AdBreaks beside = Check.loaded("radio;break 0 0 300 15;sponsor 0 9;sponsor 2 9;sponsor 3 9;sponsor 1 9;sponsor 4 9;ban 0 1;");
        beside.book(3, 10, 0);
        beside.book(4, 10, 0);
        beside.book(2, 10, 0);
        beside.book(1, 10, 0);
        beside.book(0, 10, 0);
        Check.row("23", beside, 0, 0, 1, 2, 4, 3);
        beside.remove(0, 1);
        beside.remove(0, 1);
        Check.row("23", beside, 0, 0, 4, 3);
        Check.badState("23 the spots beside it", () -> beside.remove(0, 1));

        AdBreaks next = Check.loaded("radio;break 0 0 300 15;sponsor 0 9;sponsor 2 9;sponsor 3 9;sponsor 0 9;ban 0 0;");
        next.book(0, 10, 0);
        next.book(1, 10, 0);
        next.book(2, 10, 0);
        next.book(3, 10, 0);
        Check.row("23", next, 0, 3, 2, 1, 0);
        Check.same("23 only the spots beside it count", next.remove(0, 1), 7);
        Check.row("23", next, 0, 3, 1, 0);

        AdBreaks free = Check.loaded("radio;break 0 0 100 15;sponsor 0 9;sponsor 1 9;sponsor 2 9;ban 0 0;");
        free.book(0, 10, 0);
        free.book(1, 20, 0);
        free.book(2, 30, 0);
        Check.same("23 between two that may follow each other", free.remove(0, 1), 15);
        Check.row("23", free, 0, 2, 0);
    }

    private static void air() {
        AdBreaks radio = Check.loaded(FOUR);
        radio.book(0, 10, 1);
        radio.book(3, 10, 1);
        radio.cancel(2);
        Check.same("24 the earliest", radio.air(), 0);
        Check.same("24 aired", radio.breakOf(0, 4), 1);
        Check.same("24 the next is open", radio.breakOf(1, 4), 0);
        Check.same("24 the number of its spots", radio.air(), 2);
        Check.row("24 they stay", radio, 1, 3, 0);
        Check.same("24 not a cancelled one", radio.air(), 0);
        Check.same("24 cancelled stays cancelled", radio.breakOf(2, 4), 2);
        Check.same("24 the one behind it", radio.breakOf(3, 4), 1);
        Check.badState("24 none is open", () -> radio.air());
        Check.badState("24 no breaks", () -> new AdBreaks().air());
    }

    private static void cancel() {
        AdBreaks radio = Check.loaded(FOUR);
        radio.book(0, 10, 0);
        radio.book(3, 12, 0);
        radio.book(0, 10, 1);
        int income = radio.income();
        Check.same("25 the owed spots", radio.cancel(0), 2);
        Check.same("25 in the order of the places", radio.owedSpot(0, 0), 3);
        Check.same("25 in the order of the places", radio.owedSpot(1, 0), 0);
        Check.same("25 with the audience of the break", radio.owedSpot(0, 3), 10);
        Check.same("25 with the price", radio.owedSpot(0, 2), 12);
        Check.same("25 behind those that are owed", radio.cancel(1), 3);
        Check.same("25 without spots", radio.cancel(2), 3);
        Check.same("25 the prices stay in the income", radio.income(), income);
        Check.same("25 cancelled", radio.breakOf(0, 4), 2);
        Check.row("25 no spots", radio, 0);
        Check.badState("25 cancelled already", () -> radio.cancel(0));
        Check.outOfBounds("25 break 4", () -> radio.cancel(4));
        Check.outOfBounds("25 break -1", () -> radio.cancel(-1));
        radio.air();
        Check.badState("25 aired", () -> radio.cancel(3));
    }

    private static void makeGood() {
        AdBreaks radio = Check.loaded("radio;break 0 0 60 20;break 0 5 60 19;break 1 0 30 20;break 1 5 60 40;"
            + "sponsor 0 1;sponsor 1 9;sponsor 2 9;ban 0 1;ban 1 2;");
        Check.same("26 nothing is owed", radio.makeGood(), 0);
        radio.book(0, 31, 0);
        radio.book(1, 10, 2);
        radio.cancel(0);
        int income = radio.income();
        Check.same("26 one", radio.makeGood(), 1);
        Check.same("26 no longer owed", radio.owed(), 0);
        Check.row("26 not into one with a smaller audience", radio, 1);
        Check.row("26 not into one that refuses it", radio, 2, 1);
        Check.row("26 into the earliest", radio, 3, 0);
        Check.same("26 its seconds", radio.spot(3, 0, 1), 31);
        Check.same("26 the price that it has", radio.spot(3, 0, 2), 62);
        Check.same("26 the income stays", radio.income(), income);
        radio.cancel(3);
        Check.same("26 the least audience of the new break", radio.owedSpot(0, 3), 40);
        Check.same("26 no break is good for it", radio.makeGood(), 0);
        Check.same("26 it stays owed", radio.owed(), 1);

        AdBreaks equal = Check.loaded("radio;break 0 0 60 20;break 0 5 60 20;sponsor 0 1;");
        equal.book(0, 10, 1);
        equal.cancel(1);
        Check.same("26 an equal audience, and an earlier break", equal.makeGood(), 1);
        Check.row("26", equal, 0, 0);
        AdBreaks aired = Check.loaded("radio;break 0 0 60 20;break 0 5 60 20;sponsor 0 1;");
        aired.book(0, 10, 1);
        aired.air();
        aired.cancel(1);
        Check.same("26 an aired break is not open", aired.makeGood(), 0);
    }

    private static void makeGoodOfMany() {
        AdBreaks radio = Check.loaded("radio;break 0 0 90 5;break 1 0 30 5;break 2 0 30 5;"
            + "sponsor 0 9;sponsor 1 9;sponsor 2 9;sponsor 3 9;ban 2 3;");
        radio.book(0, 25, 0);
        radio.book(1, 20, 0);
        radio.book(2, 15, 0);
        radio.book(3, 10, 1);
        radio.cancel(0);
        Check.same("26 two of three", radio.makeGood(), 2);
        Check.row("26 the first one into the earliest that has the seconds", radio, 1, 1, 3);
        Check.row("26 refused by a ban in the earlier one", radio, 2, 2);
        Check.same("26 the other stays", radio.owedSpot(0, 0), 0);

        AdBreaks order = Check.loaded("radio;break 0 0 90 5;break 1 0 30 5;sponsor 0 9;sponsor 1 9;sponsor 2 9;sponsor 3 9;");
        order.book(0, 30, 0);
        order.book(1, 20, 0);
        order.book(2, 11, 0);
        order.book(3, 10, 0);
        order.cancel(0);
        Check.same("26 in their order", order.makeGood(), 2);
        Check.row("26", order, 1, 2, 3);
        Check.same("26 the others stay in their order", order.owedSpot(0, 0), 1);
        Check.same("26 the others stay in their order", order.owedSpot(1, 0), 0);

        AdBreaks later = Check.loaded("radio;break 0 0 90 7;break 0 1 90 6;break 1 0 30 6;sponsor 0 9;sponsor 1 9;sponsor 2 9;");
        later.book(1, 10, 0);
        later.book(0, 20, 1);
        later.book(2, 31, 1);
        later.cancel(0);
        later.cancel(1);
        Check.same("26 one behind others that stay", later.makeGood(), 1);
        Check.row("26 one behind others that stay", later, 2, 0);
        Check.same("26 those stay", later.owed(), 2);
        Check.same("26 those stay", later.owedSpot(0, 0), 1);
        Check.same("26 with their least audience", later.owedSpot(0, 3), 7);
        Check.same("26 those stay", later.owedSpot(1, 0), 2);
        Check.same("26 with their least audience", later.owedSpot(1, 3), 6);

        AdBreaks first = Check.loaded("radio;break 0 0 90 5;break 0 1 90 6;break 1 0 90 5;sponsor 0 9;sponsor 1 9;");
        first.book(0, 10, 0);
        first.book(1, 10, 1);
        first.cancel(0);
        first.cancel(1);
        Check.same("26 the first one", first.makeGood(), 1);
        Check.same("26 the other one moves up", first.owedSpot(0, 0), 1);
        Check.same("26 with its least audience", first.owedSpot(0, 3), 6);
    }

    private static void campaign() {
        AdBreaks radio = Check.loaded("radio;break 0 1 60 5;break 0 2 60 3;break 1 1 60 4;sponsor 0 1;sponsor 0 9;");
        Check.same("27 until it tells none", radio.campaign(0, 10, 20), 2);
        Check.row("27 the cheaper one of the day", radio, 1, 0);
        Check.same("27 income", radio.income(), 7);
        Check.same("27 at most a number of times", radio.campaign(1, 10, 2), 2);
        Check.row("27 before the others", radio, 1, 1, 0);
        Check.row("27 not the dearest", radio, 0);
        Check.same("27 the one that is left", radio.campaign(1, 10, 2), 1);
        Check.same("27 none is left", radio.campaign(1, 10, 2), 0);
        Check.same("27 it is one change", radio.undo(), 4);
        Check.same("27 it is one change", radio.undo() + radio.breakOf(0, 5), 3);
        Check.same("27 it is one change", radio.undo() + radio.breakOf(1, 5), 2 + 1);
        Check.outOfBounds("27 sponsor 2", () -> radio.campaign(2, 4, 0));
        Check.outOfBounds("27 sponsor -1", () -> radio.campaign(-1, 10, 1));
        Check.badArgument("27 seconds 4", () -> radio.campaign(0, 4, 1));
        Check.badArgument("27 seconds 61", () -> radio.campaign(0, 61, 1));
        Check.same("27 most 1", Check.loaded("radio;break 0 1 60 1;break 1 1 60 2;sponsor 0 1;").campaign(0, 60, 1), 1);
        Check.badArgument("27 most 0", () -> radio.campaign(0, 10, 0));
        Check.badArgument("27 most 21", () -> radio.campaign(0, 10, 21));

        // The first spot makes the break at hour 1 dearer than the one at hour 0.
        AdBreaks later = Check.loaded("radio;price audience+spots*hour*10;break 0 1 60 1;break 1 1 60 2;break 2 0 60 9;sponsor 0 9;");
        Check.same("27 the prices of then", later.campaign(0, 10, 2), 2);
        Check.row("27", later, 0, 0);
        Check.row("27", later, 2, 0);
        Check.same("27 the prices of then", later.income(), 10);
        Check.same("27 all the breaks", Check.loaded("radio;break 0 1 60 1;break 1 1 60 2;sponsor 0 1;").campaign(0, 60, 20), 2);
    }

    private static void setCap() {
        AdBreaks radio = Check.loaded("radio;break 0 0 60 1;break 0 1 60 1;break 0 2 60 1;sponsor 0 3;sponsor 1 5;");
        radio.book(0, 10, 0);
        radio.book(0, 10, 1);
        Check.same("28 the previous cap", radio.setCap(0, 1), 3);
        Check.same("28 the cap", radio.sponsor(0, 1), 1);
        Check.same("28 of this sponsor alone", radio.sponsor(1, 1), 5);
        Check.same("28 spots that are there stay", radio.spotsOn(0, 0), 2);
        Check.same("28 as many or more are refused", radio.reason(0, 10, 2), 3);
        Check.same("28 the largest", radio.setCap(0, 9), 1);
        Check.same("28 then it is not refused", radio.reason(0, 10, 2), 0);
        Check.outOfBounds("28 sponsor 2", () -> radio.setCap(2, 0));
        Check.outOfBounds("28 sponsor -1", () -> radio.setCap(-1, 1));
        Check.badArgument("28 cap 0", () -> radio.setCap(0, 0));
        Check.badArgument("28 cap 10", () -> radio.setCap(0, 10));
    }

    private static void undo() {
        AdBreaks radio = new AdBreaks();
        Check.same("29 nothing to undo", radio.undo(), -1);
        Check.load(radio, FOUR);
        for (int cap = 1; cap <= 9; cap++) {
            radio.setCap(0, cap);
        }
        Check.append(radio, "radio;");
        for (int left = 7; left >= 0; left--) {
            Check.same("29 changes left", radio.undo(), left);
            Check.same("29 the latest one first", radio.sponsor(0, 1), left + 1);
        }
        Check.same("29 not more than 8", radio.undo(), -1);
        Check.same("29 nothing changes then", radio.sponsor(0, 1), 1);
        Check.same("29 the buffer is not affected", radio.append(0, 0, 0, 0, 0), 40);
        radio.setCap(0, 5);
        Check.same("29 a change after undoing", radio.undo(), 0);
        Check.same("29 a change after undoing", radio.sponsor(0, 1), 1);

        AdBreaks refused = Check.loaded(FOUR);
        refused.book(0, 60, 0);
        refused.book(0, 60, 0);
        refused.bookAnyhow(0, 60, 0);
        refused.makeGood();
        refused.setCap(0, 9);
        Check.same("29 changes although all data stay", refused.undo(), 5);
        Check.same("29 changes although all data stay", refused.undo(), 4);
        Check.same("29 changes although all data stay", refused.undo(), 3);
        Check.same("29 changes although all data stay", refused.undo() + refused.breakOf(0, 5), 3);
        Check.same("29 changes although all data stay", refused.undo() + refused.breakOf(0, 5), 1);
    }

    private static void undoOfEach() {
        AdBreaks radio = Check.loaded(FOUR);
        radio.book(0, 10, 0);
        radio.book(2, 10, 0);
        radio.book(3, 10, 2);
        radio.cancel(2);
        long start = radio.checksum();
        radio.book(1, 10, 1);
        undone("book", radio, start);
        radio.bookAnyhow(1, 10, 0);
        undone("bookAnyhow", radio, start);
        radio.remove(0, 1);
        undone("remove", radio, start);
        radio.air();
        undone("air", radio, start);
        radio.cancel(0);
        undone("cancel", radio, start);
        radio.makeGood();
        undone("makeGood", radio, start);
        radio.campaign(1, 10, 9);
        undone("campaign", radio, start);
        radio.setCap(3, 1);
        undone("setCap", radio, start);
        Check.load(radio, "radio;break 4 4 44 444;sponsor 6 6;ban 6 7;price 1;");
        undone("load", radio, start);
        Check.same("29 load: breaks", radio.breaks(), 4);
        Check.same("29 load: sponsors", radio.sponsors(), 4);
        Check.same("29 load: category", radio.sponsor(1, 0), 1);
        Check.same("29 load: audience", radio.breakOf(3, 3), 40);
        Check.same("29 load: bans", radio.isBanned(0, 1), true);
        Check.same("29 load: bans", radio.isBanned(6, 7), false);
        Check.same("29 load: prices", radio.price(0, 10, 3), 40);

        AdBreaks first = Check.loaded(FOUR);
        Check.same("29 the first load", first.undo(), 0);
        Check.same("29 no breaks again", first.breaks() + first.sponsors(), 0);
        Check.same("29 no bans again", first.isBanned(0, 1), false);
    }

    private static void undone(String change, AdBreaks radio, long checksum) {
        Check.same("29 " + change + " changes the checksum", radio.checksum() != checksum, true);
        Check.same("29 undo of " + change, radio.undo() >= 0, true);
        Check.same("29 checksum after undo of " + change, radio.checksum(), checksum);
    }

    private static void throwingChangesNothing() {
        AdBreaks radio = Check.loaded(FOUR);
        radio.book(0, 10, 0);
        radio.air();
        long checksum = radio.checksum();
        Check.badState("29 remove", () -> radio.remove(0, 0));
        Check.badState("29 cancel", () -> radio.cancel(0));
        Check.outOfBounds("29 book", () -> radio.book(0, 10, 4));
        Check.badArgument("29 bookAnyhow", () -> radio.bookAnyhow(0, 4, 0));
        Check.badArgument("29 campaign", () -> radio.campaign(0, 10, 21));
        Check.badArgument("29 setCap", () -> radio.setCap(0, 10));
        Check.badArgument("29 load", () -> radio.load(1));
        Check.same("29 a call that throws changes nothing", radio.checksum(), checksum);
        Check.same("29 a call that throws is no change", radio.undo(), 2);
        AdBreaks none = new AdBreaks();
        Check.badState("29 air", () -> none.air());
        Check.same("29 a call that throws is no change", none.undo(), -1);
    }

    private static void checksum() {
        AdBreaks radio = Check.loaded("radio;break 0 0 60 10;break 0 5 60 20;break 1 0 60 30;sponsor 0 9;sponsor 1 8;");
        radio.book(0, 10, 1);
        radio.book(1, 20, 1);
        radio.book(1, 30, 2);
        radio.air();
        radio.cancel(2);
        long[] numbers = {1, 0, 1, 20, 40, 0, 10, 20, 2, 1, 30, 90, 30, 9, 8, 150};
        long due = 0;
        for (long number : numbers) {
            due = 31 * due + number;
        }
        Check.same("30 checksum", radio.checksum(), due);
        Check.same("30 of no data", new AdBreaks().checksum(), 0);
        Check.same("30 of one sponsor", Check.loaded("radio;sponsor 5 7;").checksum(), 7 * 31);
    }
}

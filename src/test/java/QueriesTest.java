/** Promises 5 to 20: what the methods tell that change nothing. */
final class QueriesTest {
    private static final String WEEK = "radio;break 1 8 60 100;break 0 9 30 50;break 1 20 90 200;"
        + "sponsor 0 2;sponsor 1 1;sponsor 2 3;ban 0 1;";

    public static void main(String[] args) {
        sizes();
        breakOf();
        spot();
        sponsor();
        isBanned();
        spotsOn();
        reason();
        price();
        priceRules();
        cheapest();
        widest();
        income();
        owed();
        arrangements();
        arranged();
        queriesChangeNothing();
        Check.finish("QueriesTest");
    }

    private static void sizes() {
        AdBreaks radio = Check.loaded(WEEK);
        Check.same("5 breaks", radio.breaks(), 3);
        Check.same("6 sponsors", radio.sponsors(), 3);
        radio.cancel(0);
        Check.same("5 a cancelled break is still one", radio.breaks(), 3);
        AdBreaks bare = Check.loaded("radio;ban 1 1;");
        Check.same("5 none", bare.breaks(), 0);
        Check.same("6 none", bare.sponsors(), 0);
    }

    private static void breakOf() {
        AdBreaks radio = Check.loaded(WEEK);
        radio.book(0, 20, 1);
        radio.book(2, 15, 1);
        int[][] due = {{0, 9, 30, 50, 0, 0, 0}, {1, 8, 60, 100, 0, 2, 35}, {1, 20, 90, 200, 0, 0, 0}};
        for (int index = 0; index < 3; index++) {
            for (int what = 0; what < 7; what++) {
                Check.same("7 breakOf(" + index + ", " + what + ")", radio.breakOf(index, what), due[index][what]);
            }
        }
        radio.air();
        Check.same("7 aired", radio.breakOf(0, 4), 1);
        radio.cancel(1);
        Check.same("7 cancelled", radio.breakOf(1, 4), 2);
        Check.same("7 no spots any more", radio.breakOf(1, 5), 0);
        Check.same("7 no seconds any more", radio.breakOf(1, 6), 0);
        Check.outOfBounds("7 index -1", () -> radio.breakOf(-1, 0));
        Check.outOfBounds("7 index 3", () -> radio.breakOf(3, 0));
        Check.outOfBounds("7 both wrong", () -> radio.breakOf(3, 7));
        Check.badArgument("7 what -1", () -> radio.breakOf(0, -1));
        Check.badArgument("7 what 7", () -> radio.breakOf(2, 7));

        AdBreaks days = Check.loaded("radio;break 6 0 10 1;break 0 23 10 2;break 6 23 10 3;break 0 0 10 4;break 3 5 10 5;");
        int[] audiences = {4, 2, 5, 1, 3};
        for (int index = 0; index < 5; index++) {
            Check.same("7 order of days and hours", days.breakOf(index, 3), audiences[index]);
        }
    }

    private static void spot() {
        AdBreaks radio = Check.loaded(WEEK);
        radio.book(0, 20, 1);
        radio.book(2, 15, 1);
        Check.same("8 sponsor", radio.spot(1, 0, 0), 2);
        Check.same("8 seconds", radio.spot(1, 0, 1), 15);
        Check.same("8 price", radio.spot(1, 0, 2), 150);
        Check.same("8 next sponsor", radio.spot(1, 1, 0), 0);
        Check.same("8 next price", radio.spot(1, 1, 2), 200);
        Check.outOfBounds("8 no such break", () -> radio.spot(3, 0, 0));
        Check.outOfBounds("8 no such break, nor spot", () -> radio.spot(-1, -1, -1));
        Check.noElement("8 no such spot", () -> radio.spot(1, 2, 0));
        Check.noElement("8 no such spot, nor what", () -> radio.spot(0, 0, 9));
        Check.noElement("8 place -1", () -> radio.spot(1, -1, 0));
        Check.badArgument("8 what 3", () -> radio.spot(1, 0, 3));
        Check.badArgument("8 what -1", () -> radio.spot(1, 0, -1));
    }

    private static void sponsor() {
        AdBreaks radio = Check.loaded("radio;break 0 0 60 5;break 0 1 60 6;break 1 0 60 7;break 2 0 60 8;sponsor 3 4;sponsor 5 6;");
        for (int index = 0; index < 4; index++) {
            radio.book(1, 10, index);
        }
        radio.air();
        radio.air();
        radio.cancel(3);
        int[] due = {5, 6, 3, 2, 1};
        for (int what = 0; what < 5; what++) {
            Check.same("9 sponsor(1, " + what + ")", radio.sponsor(1, what), due[what]);
        }
        Check.same("9 sponsor(0, 0)", radio.sponsor(0, 0), 3);
        Check.same("9 sponsor(0, 2)", radio.sponsor(0, 2), 0);
        Check.outOfBounds("9 sponsor 2", () -> radio.sponsor(2, 5));
        Check.outOfBounds("9 sponsor -1", () -> radio.sponsor(-1, 0));
        Check.badArgument("9 what 5", () -> radio.sponsor(0, 5));
        Check.badArgument("9 what -1", () -> radio.sponsor(0, -1));
    }

    private static void isBanned() {
        AdBreaks radio = Check.loaded("radio;ban 0 9;ban 4 4;ban 9 0;ban 2 3;");
        for (int one = 0; one < 10; one++) {
            for (int other = 0; other < 10; other++) {
                boolean due = one + other == 9 && one * other == 0 || one == 4 && other == 4 || one + other == 5 && one * other == 6;
                Check.same("10 isBanned(" + one + ", " + other + ")", radio.isBanned(one, other), due);
            }
        }
        Check.load(radio, "radio;ban 8 8;");
        for (int one = 0; one < 8; one++) {
            for (int other = 0; other < 10; other++) {
                Check.same("10 bans of an earlier load are gone", radio.isBanned(one, other), false);
            }
        }
        Check.badArgument("10 category 10", () -> radio.isBanned(10, 0) ? 1 : 0);
        Check.badArgument("10 other 10", () -> radio.isBanned(0, 10) ? 1 : 0);
        Check.badArgument("10 category -1", () -> radio.isBanned(-1, 0) ? 1 : 0);
        Check.badArgument("10 other -1", () -> radio.isBanned(0, -1) ? 1 : 0);
    }

    private static void spotsOn() {
        AdBreaks radio = Check.loaded("radio;break 6 0 60 5;break 6 1 60 6;break 6 2 60 7;break 5 0 60 8;sponsor 0 9;sponsor 1 9;");
        for (int index = 0; index < 4; index++) {
            radio.book(0, 10, index);
        }
        Check.same("11 all open", radio.spotsOn(0, 6), 3);
        radio.air();
        radio.air();
        Check.same("11 aired ones count", radio.spotsOn(0, 6), 3);
        radio.cancel(3);
        Check.same("11 cancelled ones do not", radio.spotsOn(0, 6), 2);
        Check.same("11 another day", radio.spotsOn(0, 5), 1);
        Check.same("11 a day without breaks", radio.spotsOn(0, 0), 0);
        Check.same("11 another sponsor", radio.spotsOn(1, 6), 0);
        Check.outOfBounds("11 sponsor 2", () -> radio.spotsOn(2, 7));
        Check.outOfBounds("11 sponsor -1", () -> radio.spotsOn(-1, 0));
        Check.badArgument("11 day 7", () -> radio.spotsOn(0, 7));
        Check.badArgument("11 day -1", () -> radio.spotsOn(0, -1));
    }

    private static void reason() {
        AdBreaks radio = Check.loaded("radio;break 0 0 30 1;break 0 1 30 1;break 0 2 30 1;break 1 0 60 1;"
            + "sponsor 0 1;sponsor 1 9;sponsor 2 9;sponsor 0 9;ban 0 1;ban 0 0;");
        Check.same("12 none", radio.reason(0, 30, 0), 0);
        Check.same("12 too long by one", radio.reason(0, 31, 0), 4);
        radio.book(0, 20, 0);
        Check.same("12 there already, before the cap and the seconds", radio.reason(0, 60, 0), 2);
        Check.same("12 the cap of the day, before the seconds", radio.reason(0, 60, 1), 3);
        Check.same("12 another day has its own cap", radio.reason(0, 60, 3), 0);
        Check.same("12 seconds left", radio.reason(2, 10, 0), 0);
        Check.same("12 seconds before the ban", radio.reason(1, 11, 0), 4);
        Check.same("12 a ban of two categories", radio.reason(1, 10, 0), 5);
        Check.same("12 a ban of the same category", radio.reason(3, 10, 0), 5);
        radio.book(2, 5, 0);
        Check.same("12 a free place behind another", radio.reason(1, 5, 0), 0);
        radio.air();
        Check.same("12 not open, before all others", radio.reason(0, 60, 0), 1);
        Check.same("12 aired ones count for the cap", radio.reason(0, 10, 1), 3);
        radio.cancel(1);
        Check.same("12 cancelled is not open", radio.reason(1, 10, 1), 1);
        radio.setCap(0, 2);
        Check.same("12 the cap as it is now", radio.reason(0, 10, 2), 0);
        checkSpotArguments("12 reason", radio::reason);
    }

    interface SpotCall {
        int of(int sponsor, int seconds, int index);
    }

    /** With 4 sponsors and 4 breaks. */
    static void checkSpotArguments(String call, SpotCall what) {
        Check.outOfBounds(call + " sponsor 4", () -> what.of(4, 10, 0));
        Check.outOfBounds(call + " sponsor -1", () -> what.of(-1, 10, 0));
        Check.outOfBounds(call + " break 4", () -> what.of(0, 10, 4));
        Check.outOfBounds(call + " break -1", () -> what.of(0, 10, -1));
        Check.outOfBounds(call + " all wrong", () -> what.of(0, 61, 4));
        Check.badArgument(call + " seconds 4", () -> what.of(0, 4, 0));
        Check.badArgument(call + " seconds 61", () -> what.of(0, 61, 0));
        Check.badArgument(call + " seconds far below", () -> what.of(3, Integer.MIN_VALUE, 3));
    }

    private static void price() {
        AdBreaks radio = Check.loaded("radio;break 0 0 20 7;break 0 13 300 999;break 1 2 60 0;break 1 4 60 3;"
            + "sponsor 0 9;sponsor 1 9;sponsor 2 9;sponsor 3 9;");
        Check.same("13 without a price statement", radio.price(0, 5, 0), 3);
        Check.same("13 the largest", radio.price(0, 60, 1), 5994);
        Check.same("13 nobody listens", radio.price(0, 60, 2), 0);
        radio.book(0, 20, 0);
        Check.same("13 although it is refused", radio.price(0, 20, 0), 14);
        radio.air();
        Check.same("13 although it is aired", radio.price(0, 20, 0), 14);
        checkSpotArguments("13 price", radio::price);
    }

    private static void priceRules() {
        rule("7", 7);
        rule("9999", 9999);
        rule("audience", 300);
        rule("hour", 20);
        rule("seconds", 10);
        rule("used", 25);
        rule("spots", 2);
        rule("10-3-2", 5);
        rule("10-(3-2)", 9);
        rule("100/10/5", 2);
        rule("100/(10/5)", 50);
        rule("7/2*2", 6);
        rule("7*2/2", 7);
        rule("2+3*4", 14);
        rule("(2+3)*4", 20);
        rule("2*3+4*5-6/4", 25);
        rule("5/0+3", 3);
        rule("5*(1/(2-2))+3", 3);
        rule("1-2", 0);
        rule("(1-8)/2+10", 7);
        rule("9999*9", 89991);
        rule("9999*11", 99999);
        rule("9999*9999", 99999);
        rule("9999*9999/9999", 100);
        rule("9999*9999-9999*9", 99999);
        rule("9999*9999-9999*99", 10099);
        rule("9999*90+9999*90-9999*99", 10099);
        rule("(0-9999)*9999+9999*100+200", 100);
        rule("0-9999*9999-9999+9999*100+200", 100);
        rule("(0-9999)*9999/9999+200", 100);
        rule("audience*seconds/10+hour*2-used/3+spots*(1+spots)", 300 + 40 - 8 + 6);
        rule("((((used))))", 25);
        rule("1+2*(3+4*(5+6*(7+8*(9+2*spots))))", 1 + 2 * (3 + 4 * (5 + 6 * (7 + 8 * (9 + 2 * 2)))));
        rule("((((9*2+1)*8+7)*6+5)*4+3)-2/1", ((((9 * 2 + 1) * 8 + 7) * 6 + 5) * 4 + 3) - 2);
    }

    /** Sponsor 0 has two spots, and the break has one of 10 and one of 15 seconds. */
    private static void rule(String rule, int due) {
        AdBreaks radio = Check.loaded("radio;price " + rule + ";break 3 20 200 300;break 4 0 20 5;sponsor 0 9;sponsor 1 9;");
        radio.book(0, 15, 0);
        radio.book(0, 20, 1);
        radio.book(1, 10, 0);
        Check.same("13 price " + rule, radio.price(0, 10, 0), due);
    }

    private static void cheapest() {
        AdBreaks radio = Check.loaded("radio;break 0 0 60 30;break 0 1 60 10;break 1 0 60 10;break 1 1 60 20;sponsor 0 1;sponsor 1 1;");
        Check.same("14 the earliest of the smallest", radio.cheapest(0, 10), 1);
        radio.book(0, 10, 1);
        Check.same("14 not one that refuses", radio.cheapest(0, 10), 2);
        radio.book(0, 10, 2);
        Check.same("14 all refuse", radio.cheapest(0, 10), -1);
        Check.same("14 another sponsor", radio.cheapest(1, 50), 1);
        Check.same("14 too long there", radio.cheapest(1, 51), 3);
        Check.outOfBounds("14 sponsor 2", () -> radio.cheapest(2, 61));
        Check.outOfBounds("14 sponsor -1", () -> radio.cheapest(-1, 10));
        Check.badArgument("14 seconds 4", () -> radio.cheapest(0, 4));
        Check.badArgument("14 seconds 61", () -> radio.cheapest(0, 61));

        AdBreaks late = Check.loaded("radio;price 30-hour;break 0 1 60 1;break 0 9 60 9;sponsor 0 1;");
        Check.same("14 by the price expression", late.cheapest(0, 60), 1);
        Check.same("14 no breaks", Check.loaded("radio;sponsor 0 1;").cheapest(0, 5), -1);
    }

    private static void widest() {
        AdBreaks radio = Check.loaded("radio;break 0 0 60 10;break 0 1 60 30;break 1 0 50 30;break 1 1 60 20;sponsor 0 1;sponsor 1 1;");
        Check.same("15 the earliest of the greatest", radio.widest(0, 10), 1);
        radio.book(0, 10, 0);
        Check.same("15 not one that refuses", radio.widest(0, 10), 2);
        Check.same("15 too long there", radio.widest(0, 51), 3);
        radio.book(0, 10, 3);
        Check.same("15 all refuse", radio.widest(0, 10), -1);
        Check.outOfBounds("15 sponsor 2", () -> radio.widest(2, 4));
        Check.outOfBounds("15 sponsor -1", () -> radio.widest(-1, 10));
        Check.badArgument("15 seconds 4", () -> radio.widest(0, 4));
        Check.badArgument("15 seconds 61", () -> radio.widest(0, 61));
        AdBreaks first = Check.loaded("radio;break 0 0 60 30;break 0 1 60 20;break 1 0 60 25;sponsor 0 1;");
        Check.same("15 the first one", first.widest(0, 10), 0);
        Check.same("15 nobody listens", Check.loaded("radio;break 0 0 60 0;sponsor 0 1;").widest(0, 5), 0);
    }

    private static void income() {
        AdBreaks radio = Check.loaded("radio;price 100*spots+55;break 0 0 60 1;break 1 0 60 1;break 2 0 60 1;sponsor 0 9;");
        Check.same("16 at first", radio.income(), 0);
        radio.book(0, 10, 0);
        radio.book(0, 10, 1);
        Check.same("16 each as it was when it was booked", radio.income(), 55 + 155);
        radio.remove(1, 0);
        Check.same("16 minus the refund", radio.income(), 55 + 155 - 77);
        radio.cancel(0);
        Check.same("16 owed spots count", radio.income(), 133);
        radio.makeGood();
        Check.same("16 made good at the price that it has", radio.income(), 133);
        Check.same("16 which it keeps", radio.spot(1, 0, 2), 55);
        radio.air();
        Check.same("16 aired ones count", radio.income(), 133);
    }

    private static void owed() {
        AdBreaks radio = Check.loaded("radio;break 0 0 60 40;break 0 1 60 50;sponsor 0 9;sponsor 1 9;");
        Check.same("17 at first", radio.owed(), 0);
        radio.book(0, 10, 0);
        radio.book(1, 20, 0);
        radio.book(0, 30, 1);
        radio.cancel(1);
        radio.cancel(0);
        Check.same("17 all", radio.owed(), 3);
        int[][] due = {{0, 30, 150, 50}, {1, 20, 80, 40}, {0, 10, 40, 40}};
        for (int index = 0; index < 3; index++) {
            for (int what = 0; what < 4; what++) {
                Check.same("18 owedSpot(" + index + ", " + what + ")", radio.owedSpot(index, what), due[index][what]);
            }
        }
        Check.noElement("18 index 3", () -> radio.owedSpot(3, 4));
        Check.noElement("18 index -1", () -> radio.owedSpot(-1, 0));
        Check.badArgument("18 what 4", () -> radio.owedSpot(0, 4));
        Check.badArgument("18 what -1", () -> radio.owedSpot(2, -1));
    }

    private static void arrangements() {
        AdBreaks radio = Check.loaded(WEEK);
        int[] due = {1, 1, 1, 0, 1, 2, 2, 2};
        for (int set = 0; set < 8; set++) {
            Check.same("19 arrangements(" + set + ")", radio.arrangements(set), due[set]);
        }
        Check.badArgument("19 set 8", () -> radio.arrangements(8));
        Check.badArgument("19 set -1", () -> radio.arrangements(-1));

        AdBreaks free = Check.loaded("radio;" + "sponsor 1 1;".repeat(8));
        Check.same("19 all orders of 8", free.arrangements(255), 40320);
        Check.same("19 all orders of 5", free.arrangements(0b10110101), 120);
        Check.badArgument("19 set 256", () -> free.arrangements(256));
        AdBreaks none = Check.loaded("radio;ban 1 1;" + "sponsor 1 1;".repeat(8));
        Check.same("19 none of 8", none.arrangements(255), 0);
        Check.same("19 a sponsor alone", none.arrangements(128), 1);
        AdBreaks half = Check.loaded("radio;ban 1 1;" + "sponsor 1 1;sponsor 2 1;".repeat(4));
        AdBreaks again = Check.loaded("radio;sponsor 0 1;sponsor 1 1;");
        Check.same("19 without a ban", again.arrangements(3), 2);
        Check.load(again, "radio;sponsor 0 1;sponsor 1 1;ban 0 1;");
        Check.same("19 with a ban of another load", again.arrangements(3), 0);
        Check.same("19 one category apart", half.arrangements(255), 5 * 24 * 24);
    }

    private static void arranged() {
        AdBreaks radio = Check.loaded(WEEK);
        int[] due = {0, 2, 1};
        for (int place = 0; place < 3; place++) {
            Check.same("20 arranged(7, " + place + ")", radio.arranged(7, place), due[place]);
        }
        Check.same("20 the smallest first", radio.arranged(6, 0), 1);
        Check.same("20 there is none", radio.arranged(3, 0), -1);
        Check.same("20 there is none", radio.arranged(3, 1), -1);
        Check.badArgument("20 set 8", () -> radio.arranged(8, 9));
        Check.badArgument("20 set -1", () -> radio.arranged(-1, 0));
        Check.outOfBounds("20 place 3", () -> radio.arranged(7, 3));
        Check.outOfBounds("20 place 2 of two", () -> radio.arranged(3, 2));
        Check.outOfBounds("20 place -1", () -> radio.arranged(7, -1));
        Check.outOfBounds("20 the empty set", () -> radio.arranged(0, 0));

        // Sponsor 0 can only stand beside 3, so that it must stand at an end; 1 and 2 cannot follow each other.
        AdBreaks late = Check.loaded("radio;sponsor 0 1;sponsor 1 1;sponsor 2 1;sponsor 3 1;ban 0 1;ban 0 2;ban 1 2;");
        Check.same("20 no arrangement of all", late.arranged(15, 0), -1);
        AdBreaks chain = Check.loaded("radio;sponsor 0 1;sponsor 1 1;sponsor 2 1;sponsor 3 1;ban 0 1;ban 0 2;ban 1 3;");
        int[] row = {0, 3, 2, 1};
        for (int place = 0; place < 4; place++) {
            Check.same("20 chain at " + place, chain.arranged(15, place), row[place]);
        }
        AdBreaks turn = Check.loaded("radio;sponsor 0 1;sponsor 1 1;sponsor 2 1;ban 1 2;");
        int[] order = {1, 0, 2};
        for (int place = 0; place < 3; place++) {
            Check.same("20 turn at " + place, turn.arranged(7, place), order[place]);
        }
    }

    private static void queriesChangeNothing() {
        AdBreaks radio = Check.loaded(WEEK);
        radio.book(0, 20, 0);
        radio.book(1, 20, 1);
        long before = radio.checksum();
        radio.cheapest(2, 10);
        radio.widest(2, 10);
        radio.price(2, 10, 0);
        radio.reason(2, 10, 0);
        radio.arrangements(7);
        radio.arranged(7, 0);
        Check.same("30 queries change nothing", radio.checksum(), before);
        Check.same("29 queries are no changes", radio.undo(), 2);
    }
}

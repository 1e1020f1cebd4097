import java.util.NoSuchElementException;

/** Ad breaks of a village radio: breaks, sponsors, bans, spots, owed spots, prices and arrangements. */
public final class AdBreaks {
    public static final int SYNTAX_ERROR = -2;
    public static final int OUT_OF_RANGE = -3;
    public static final int TOO_MANY = -4;
    public static final int TOO_DEEP = -5;

    private static final int MOST_BYTES = 800;
    private static final int BYTES_A_WORD = 4;
    private static final int WORDS_A_CALL = 5;
    private static final int MOST_BREAKS = 20;
    private static final int MOST_SPONSORS = 8;
    private static final int MOST_BANS = 10;
    private static final int MOST_CHANGES = 8;
    private static final int MOST_NESTED = 4;
    private static final int MOST_TIMES = 20;
    private static final int LAST_DAY = 6;
    private static final int LAST_HOUR = 23;
    private static final int LEAST_BREAK = 10;
    private static final int LONGEST_BREAK = 300;
    private static final int MOST_AUDIENCE = 999;
    private static final int LAST_CATEGORY = 9;
    private static final int MOST_CAP = 9;
    private static final int SHORTEST_SPOT = 5;
    private static final int LONGEST_SPOT = 60;
    private static final int MOST_FACTOR = 9999;
    private static final int MOST_PRICE = 99999;
    private static final long MOST_RESULT = 1000000L;

    private static final int OPEN = 0;
    private static final int AIRED = 1;
    private static final int CANCELLED = 2;

    private static final int NO_REASON = 0;
    private static final int NOT_OPEN = 1;
    private static final int THERE_ALREADY = 2;
    private static final int CAP_REACHED = 3;
    private static final int TOO_LONG = 4;
    private static final int NO_PLACE = 5;

    private final byte[] buffer;
    private int filled;
    private int offsetOfError;
    private final SetupReader reader;
    private final Plan draft;
    private final History history;
    private final Arranger arranger;

    public AdBreaks() {
        buffer = new byte[MOST_BYTES];
        filled = 0;
        offsetOfError = -1;
        reader = new SetupReader();
        draft = new Plan();
        history = new History();
        arranger = new Arranger();
    }

    public int append(int w0, int w1, int w2, int w3, int w4) {
        if (filled > MOST_BYTES - WORDS_A_CALL * BYTES_A_WORD) {
            return -1;
        }
        appendWord(w0);
        appendWord(w1);
        appendWord(w2);
        appendWord(w3);
        appendWord(w4);
        return filled;
    }

    public int load(int length) throws IllegalArgumentException {
        if (length < 0 || length > filled) {
            throw new IllegalArgumentException("length");
        }
        // The text goes into a draft first, because an error must leave the plan as it is.
        boolean correct = reader.readSetup(buffer, length, draft);
        filled = 0;
        offsetOfError = reader.errorAt;
        if (!correct) {
            return reader.error;
        }
        Plan plan = history.beginChange();
        plan.copyFrom(draft);
        return plan.breakCount;
    }

    public int errorOffset() {
        return offsetOfError;
    }

    public int breaks() {
        return history.latest().breakCount;
    }

    public int sponsors() {
        return history.latest().sponsorCount;
    }

    public int breakOf(int index, int what) throws IndexOutOfBoundsException, IllegalArgumentException {
        Plan plan = history.latest();
        checkBreak(plan, index);
        checkRange(what, 0, 6);
        AdBreak at = plan.list[index];
        switch (what) {
            case 0: return at.day;
            case 1: return at.hour;
            case 2: return at.length;
            case 3: return at.audience;
            case 4: return at.state;
            case 5: return at.row.count;
            default: return at.row.secondsTogether();
        }
    }

    public int spot(int index, int place, int what) throws IndexOutOfBoundsException, NoSuchElementException, IllegalArgumentException {
        Plan plan = history.latest();
        checkBreak(plan, index);
        SpotRow row = plan.list[index].row;
        checkPlace(row, place);
        checkRange(what, 0, 2);
        return row.tell(place, what);
    }

    public int sponsor(int sponsor, int what) throws IndexOutOfBoundsException, IllegalArgumentException {
        Plan plan = history.latest();
        checkSponsor(plan, sponsor);
        checkRange(what, 0, 4);
        switch (what) {
            case 0: return plan.category[sponsor];
            case 1: return plan.cap[sponsor];
            case 2: return plan.spotsOf(sponsor);
            case 3: return plan.airedSpotsOf(sponsor);
            default: return plan.owedRow.countOf(sponsor);
        }
    }

    public boolean isBanned(int category, int other) throws IllegalArgumentException {
        checkRange(category, 0, LAST_CATEGORY);
        checkRange(other, 0, LAST_CATEGORY);
        return history.latest().hasBan(category, other);
    }

    public int spotsOn(int sponsor, int day) throws IndexOutOfBoundsException, IllegalArgumentException {
        Plan plan = history.latest();
        checkSponsor(plan, sponsor);
        checkRange(day, 0, LAST_DAY);
        return plan.spotsOfDay(sponsor, day);
    }

    public int reason(int sponsor, int seconds, int index) throws IndexOutOfBoundsException, IllegalArgumentException {
        Plan plan = history.latest();
        checkSpotIn(plan, sponsor, seconds, index);
        return plan.refusal(sponsor, seconds, index);
    }

    public int price(int sponsor, int seconds, int index) throws IndexOutOfBoundsException, IllegalArgumentException {
        Plan plan = history.latest();
        checkSpotIn(plan, sponsor, seconds, index);
        return plan.priceOf(sponsor, seconds, index);
    }

    public int cheapest(int sponsor, int seconds) throws IndexOutOfBoundsException, IllegalArgumentException {
        Plan plan = history.latest();
        checkSponsor(plan, sponsor);
        checkRange(seconds, SHORTEST_SPOT, LONGEST_SPOT);
        return plan.cheapestBreak(sponsor, seconds);
    }

    public int widest(int sponsor, int seconds) throws IndexOutOfBoundsException, IllegalArgumentException {
        Plan plan = history.latest();
        checkSponsor(plan, sponsor);
        checkRange(seconds, SHORTEST_SPOT, LONGEST_SPOT);
        return plan.widestBreak(sponsor, seconds);
    }

    public int income() {
        return history.latest().earned;
    }

    public int owed() {
        return history.latest().owedRow.count;
    }

    public int owedSpot(int index, int what) throws NoSuchElementException, IllegalArgumentException {
        SpotRow row = history.latest().owedRow;
        checkPlace(row, index);
        checkRange(what, 0, 3);
        return row.tell(index, what);
    }

    public int arrangements(int set) throws IllegalArgumentException {
        Plan plan = history.latest();
        checkSet(plan, set);
        return arranger.countOrders(plan, set);
    }

    public int arranged(int set, int place) throws IllegalArgumentException, IndexOutOfBoundsException {
        Plan plan = history.latest();
        checkSet(plan, set);
        if (place < 0 || place >= Integer.bitCount(set)) {
            throw new IndexOutOfBoundsException("place");
        }
        return arranger.findFirst(plan, set) ? arranger.order[place] : -1;
    }

    public int book(int sponsor, int seconds, int index) throws IndexOutOfBoundsException, IllegalArgumentException {
        checkSpotIn(history.latest(), sponsor, seconds, index);
        return history.beginChange().bookSpot(sponsor, seconds, index);
    }

    public int bookAnyhow(int sponsor, int seconds, int index) throws IndexOutOfBoundsException, IllegalArgumentException {
        checkSpotIn(history.latest(), sponsor, seconds, index);
        Plan plan = history.beginChange();
        if (plan.refusal(sponsor, seconds, index) != NO_PLACE) {
            return plan.bookSpot(sponsor, seconds, index);
        }
        int set = plan.list[index].row.sponsorSet() | 1 << sponsor;
        if (!arranger.findFirst(plan, set)) {
            return -NO_PLACE;
        }
        plan.bookInOrder(sponsor, seconds, index, arranger.order);
        return plan.list[index].row.placeOf(sponsor);
    }

    public int remove(int index, int place) throws IndexOutOfBoundsException, NoSuchElementException, IllegalStateException {
        Plan plan = history.latest();
        checkBreak(plan, index);
        checkPlace(plan.list[index].row, place);
        if (!plan.canTakeOut(index, place)) {
            throw new IllegalStateException("not open, or a ban would be broken");
        }
        return history.beginChange().takeOut(index, place);
    }

    public int air() throws IllegalStateException {
        int index = history.latest().earliestOpen();
        if (index < 0) {
            throw new IllegalStateException("no break is open");
        }
        AdBreak earliest = history.beginChange().list[index];
        earliest.state = AIRED;
        return earliest.row.count;
    }

    public int cancel(int index) throws IndexOutOfBoundsException, IllegalStateException {
        Plan plan = history.latest();
        checkBreak(plan, index);
        if (plan.list[index].state != OPEN) {
            throw new IllegalStateException("not open");
        }
        plan = history.beginChange();
        plan.cancelBreak(index);
        return plan.owedRow.count;
    }

    public int makeGood() {
        return history.beginChange().settleOwed();
    }

    public int campaign(int sponsor, int seconds, int most) throws IndexOutOfBoundsException, IllegalArgumentException {
        checkSponsor(history.latest(), sponsor);
        checkRange(seconds, SHORTEST_SPOT, LONGEST_SPOT);
        checkRange(most, 1, MOST_TIMES);
        return history.beginChange().bookCheapest(sponsor, seconds, most);
    }

    public int setCap(int sponsor, int cap) throws IndexOutOfBoundsException, IllegalArgumentException {
        checkSponsor(history.latest(), sponsor);
        checkRange(cap, 1, MOST_CAP);
        Plan plan = history.beginChange();
        int previous = plan.cap[sponsor];
        plan.cap[sponsor] = cap;
        return previous;
    }

    public int undo() {
        return history.stepBack();
    }

    public long checksum() {
        Plan plan = history.latest();
        long sum = 0;
        for (int index = 0; index < plan.breakCount; index++) {
            sum = 31 * sum + plan.list[index].state;
            sum = plan.list[index].row.addTo(sum, 3);
        }
        sum = plan.owedRow.addTo(sum, 4);
        for (int each = 0; each < plan.sponsorCount; each++) {
            sum = 31 * sum + plan.cap[each];
        }
        return 31 * sum + plan.earned;
    }

    private void appendWord(int word) {
        if (filled > MOST_BYTES - BYTES_A_WORD) {
            return;
        }
        for (int shift = 24; shift >= 0; shift -= 8) {
            buffer[filled] = (byte) (word >> shift);
            filled++;
        }
    }

    private static void checkBreak(Plan plan, int index) {
        if (index < 0 || index >= plan.breakCount) {
            throw new IndexOutOfBoundsException("no such break");
        }
    }

    private static void checkSponsor(Plan plan, int sponsor) {
        if (sponsor < 0 || sponsor >= plan.sponsorCount) {
            throw new IndexOutOfBoundsException("no such sponsor");
        }
    }

    private static void checkPlace(SpotRow row, int place) {
        if (place < 0 || place >= row.count) {
            throw new NoSuchElementException("no such spot");
        }
    }

    private static void checkRange(int value, int least, int most) {
        if (value < least || value > most) {
            throw new IllegalArgumentException("out of range");
        }
    }

    private static void checkSet(Plan plan, int set) {
        checkRange(set, 0, (1 << plan.sponsorCount) - 1);
    }

    private static void checkSpotIn(Plan plan, int sponsor, int seconds, int index) {
        checkSponsor(plan, sponsor);
        checkBreak(plan, index);
        checkRange(seconds, SHORTEST_SPOT, LONGEST_SPOT);
    }

    /** Spots in a row: those of one break by their places, or those that are owed. */
    private static final class SpotRow {
        final int[] sponsors;
        final int[] seconds;
        final int[] prices;
        final int[] leastAudiences;
        int count;

        SpotRow(int capacity) {
            sponsors = new int[capacity];
            seconds = new int[capacity];
            prices = new int[capacity];
            leastAudiences = new int[capacity];
            count = 0;
        }

        void copyFrom(SpotRow other) {
            count = Math.min(other.count, sponsors.length);
            for (int place = 0; place < count; place++) {
                copySpot(other, place, place);
            }
        }

        private void copySpot(SpotRow other, int from, int to) {
            sponsors[to] = other.sponsors[from];
            seconds[to] = other.seconds[from];
            prices[to] = other.prices[from];
            leastAudiences[to] = other.leastAudiences[from];
        }

        /** Puts in a spot that stands in another row. */
        void takeOver(SpotRow other, int from, int to, int leastAudience) {
            if (from < 0 || from >= other.count) {
                return;
            }
            insert(to, other.sponsors[from], other.seconds[from], other.prices[from], leastAudience);
        }

        void insert(int place, int sponsor, int length, int price, int leastAudience) {
            if (place < 0 || place > count || count >= sponsors.length) {
                return;
            }
            count++;
            for (int to = count - 1; to > place; to--) {
                copySpot(this, to - 1, to);
            }
            sponsors[place] = sponsor;
            seconds[place] = length;
            prices[place] = price;
            leastAudiences[place] = leastAudience;
        }

        void delete(int place) {
            if (place < 0 || place >= count) {
                return;
            }
            for (int to = place; to < count - 1; to++) {
                copySpot(this, to + 1, to);
            }
            count--;
        }

        /** Moves the spot at the first place forward to the second one, which is not behind it. */
        void moveForward(int from, int to) {
            if (to < 0 || to > from || from >= count) {
                return;
            }
            int sponsor = sponsors[from];
            int length = seconds[from];
            int price = prices[from];
            int leastAudience = leastAudiences[from];
            delete(from);
            insert(to, sponsor, length, price, leastAudience);
        }

        /** 0 the sponsor, 1 the seconds, 2 the price, 3 the least audience of the spot at a place. */
        int tell(int place, int what) {
            if (place < 0 || place >= count) {
                return 0;
            }
            switch (what) {
                case 0: return sponsors[place];
                case 1: return seconds[place];
                case 2: return prices[place];
                default: return leastAudiences[place];
            }
        }

        int placeOf(int sponsor) {
            for (int place = 0; place < count; place++) {
                if (sponsors[place] == sponsor) {
                    return place;
                }
            }
            return -1;
        }

        int countOf(int sponsor) {
            int found = 0;
            for (int place = 0; place < count; place++) {
                if (sponsors[place] == sponsor) {
                    found++;
                }
            }
            return found;
        }

        int secondsTogether() {
            int together = 0;
            for (int place = 0; place < count; place++) {
                together += seconds[place];
            }
            return together;
        }

        int sponsorSet() {
            int set = 0;
            for (int place = 0; place < count; place++) {
                set |= 1 << sponsors[place];
            }
            return set;
        }

        /** Goes on with a checksum over the first so many things that tell knows of each spot. */
        long addTo(long checksum, int things) {
            long sum = checksum;
            for (int place = 0; place < count; place++) {
                for (int what = 0; what < things; what++) {
                    sum = 31 * sum + tell(place, what);
                }
            }
            return sum;
        }
    }

    /** One break with its spots. */
    private static final class AdBreak {
        int day;
        int hour;
        int length;
        int audience;
        int state;
        final SpotRow row;

        AdBreak() {
            // No two spots of a break have the same sponsor.
            row = new SpotRow(MOST_SPONSORS);
        }

        void setUp(int newDay, int newHour, int newLength, int newAudience) {
            day = newDay;
            hour = newHour;
            length = newLength;
            audience = newAudience;
            state = OPEN;
            row.count = 0;
        }

        void copyFrom(AdBreak other) {
            day = other.day;
            hour = other.hour;
            length = other.length;
            audience = other.audience;
            state = other.state;
            row.copyFrom(other.row);
        }

        boolean isLaterThan(int otherDay, int otherHour) {
            return day > otherDay || day == otherDay && hour > otherHour;
        }
    }

    /** The price expression, its operands before their operators. */
    private static final class Formula {
        static final int AUDIENCE = -1;
        static final int HOUR = -2;
        static final int SECONDS = -3;
        static final int USED = -4;
        static final int SPOTS = -5;
        static final int ADD = -6;
        static final int SUBTRACT = -7;
        static final int MULTIPLY = -8;
        static final int DIVIDE = -9;

        /** A code from 0 up is a number, one from AUDIENCE down to SPOTS is given, the others are operators. */
        final int[] codes;
        int size;
        final int[] given;
        final int[] stack;

        Formula() {
            codes = new int[MOST_BYTES];
            given = new int[-SPOTS];
            // In each pair of parentheses, and outside of all, a sum and a term can wait for their right operands.
            stack = new int[2 * (MOST_NESTED + 1) + 1];
            size = 0;
        }

        void clear() {
            size = 0;
        }

        void setDefault() {
            clear();
            emit(AUDIENCE);
            emit(SECONDS);
            emit(MULTIPLY);
            emit(10);
            emit(DIVIDE);
        }

        void emit(int code) {
            if (size < codes.length) {
                codes[size] = code;
                size++;
            }
        }

        void copyFrom(Formula other) {
            size = 0;
            for (int at = 0; at < other.size; at++) {
                emit(other.codes[at]);
            }
        }

        int evaluate(int audience, int hour, int seconds, int used, int spots) {
            given[-1 - AUDIENCE] = audience;
            given[-1 - HOUR] = hour;
            given[-1 - SECONDS] = seconds;
            given[-1 - USED] = used;
            given[-1 - SPOTS] = spots;
            int height = 0;
            for (int at = 0; at < size; at++) {
                int code = codes[at];
                if (code >= SPOTS && height < stack.length) {
                    stack[height] = code >= 0 ? code : given[-1 - code];
                    height++;
                } else if (code < SPOTS && height >= 2) {
                    height--;
                    stack[height - 1] = operate(code, stack[height - 1], stack[height]);
                }
            }
            return stack[0];
        }

        private static int operate(int operator, long left, long right) {
            long result;
            switch (operator) {
                case ADD: result = left + right; break;
                case SUBTRACT: result = left - right; break;
                case MULTIPLY: result = left * right; break;
                default: result = right == 0 ? 0 : left / right; break;
            }
            return (int) Math.max(-MOST_RESULT, Math.min(MOST_RESULT, result));
        }
    }

    /** All data that a setup text sets and that changes change. */
    private static final class Plan {
        final AdBreak[] list;
        int breakCount;
        final int[] category;
        final int[] cap;
        int sponsorCount;
        /** For each category the categories that a ban keeps from it, as bits. */
        final int[] bannedFrom;
        final Formula formula;
        final SpotRow owedRow;
        int earned;

        Plan() {
            list = new AdBreak[MOST_BREAKS];
            for (int index = 0; index < MOST_BREAKS; index++) {
                list[index] = new AdBreak();
            }
            category = new int[MOST_SPONSORS];
            cap = new int[MOST_SPONSORS];
            bannedFrom = new int[LAST_CATEGORY + 1];
            formula = new Formula();
            // A break is cancelled once at most, and leaves at most one spot of each sponsor.
            owedRow = new SpotRow(MOST_BREAKS * MOST_SPONSORS);
        }

        void clear() {
            breakCount = 0;
            sponsorCount = 0;
            for (int each = 0; each < bannedFrom.length; each++) {
                bannedFrom[each] = 0;
            }
            formula.setDefault();
            owedRow.count = 0;
            earned = 0;
        }

        void copyFrom(Plan other) {
            breakCount = other.breakCount;
            for (int index = 0; index < breakCount; index++) {
                list[index].copyFrom(other.list[index]);
            }
            sponsorCount = other.sponsorCount;
            for (int each = 0; each < sponsorCount; each++) {
                category[each] = other.category[each];
                cap[each] = other.cap[each];
            }
            for (int each = 0; each < bannedFrom.length; each++) {
                bannedFrom[each] = other.bannedFrom[each];
            }
            formula.copyFrom(other.formula);
            owedRow.copyFrom(other.owedRow);
            earned = other.earned;
        }

        boolean hasBreakAt(int day, int hour) {
            for (int index = 0; index < breakCount; index++) {
                if (list[index].day == day && list[index].hour == hour) {
                    return true;
                }
            }
            return false;
        }

        void addBreak(int day, int hour, int length, int audience) {
            if (breakCount >= MOST_BREAKS) {
                return;
            }
            AdBreak added = list[breakCount];
            added.setUp(day, hour, length, audience);
            int index = breakCount;
            while (index > 0 && list[index - 1].isLaterThan(day, hour)) {
                list[index] = list[index - 1];
                index--;
            }
            list[index] = added;
            breakCount++;
        }

        void addSponsor(int itsCategory, int itsCap) {
            if (sponsorCount >= MOST_SPONSORS) {
                return;
            }
            category[sponsorCount] = itsCategory;
            cap[sponsorCount] = itsCap;
            sponsorCount++;
        }

        void addBan(int one, int other) {
            bannedFrom[one] |= 1 << other;
            bannedFrom[other] |= 1 << one;
        }

        boolean hasBan(int one, int other) {
            return (bannedFrom[one] >> other & 1) != 0;
        }

        /** Whether a ban keeps spots of these sponsors from following each other. */
        boolean clash(int sponsor, int other) {
            return hasBan(category[sponsor], category[other]);
        }

        // Cancelled breaks have no spots, so that only open and aired ones are counted here.
        int spotsOf(int sponsor) {
            int found = 0;
            for (int index = 0; index < breakCount; index++) {
                found += list[index].row.countOf(sponsor);
            }
            return found;
        }

        int airedSpotsOf(int sponsor) {
            int found = 0;
            for (int index = 0; index < breakCount; index++) {
                if (list[index].state == AIRED) {
                    found += list[index].row.countOf(sponsor);
                }
            }
            return found;
        }

        int spotsOfDay(int sponsor, int day) {
            int found = 0;
            for (int index = 0; index < breakCount; index++) {
                if (list[index].day == day) {
                    found += list[index].row.countOf(sponsor);
                }
            }
            return found;
        }

        int refusal(int sponsor, int seconds, int index) {
            AdBreak at = list[index];
            if (at.state != OPEN) {
                return NOT_OPEN;
            }
            if (at.row.placeOf(sponsor) >= 0) {
                return THERE_ALREADY;
            }
            if (spotsOfDay(sponsor, at.day) >= cap[sponsor]) {
                return CAP_REACHED;
            }
            if (at.row.secondsTogether() + seconds > at.length) {
                return TOO_LONG;
            }
            return placeFor(sponsor, at.row) < 0 ? NO_PLACE : NO_REASON;
        }

        /** The smallest place at which no ban is broken; -1 if there is none. */
        int placeFor(int sponsor, SpotRow row) {
            for (int place = 0; place <= row.count; place++) {
                boolean fitsBefore = place == 0 || !clash(sponsor, row.sponsors[place - 1]);
                boolean fitsBehind = place == row.count || !clash(sponsor, row.sponsors[place]);
                if (fitsBefore && fitsBehind) {
                    return place;
                }
            }
            return -1;
        }

        int priceOf(int sponsor, int seconds, int index) {
            AdBreak at = list[index];
            int used = at.row.secondsTogether();
            int value = formula.evaluate(at.audience, at.hour, seconds, used, spotsOf(sponsor));
            return Math.max(0, Math.min(MOST_PRICE, value));
        }

        int cheapestBreak(int sponsor, int seconds) {
            int best = -1;
            int bestPrice = 0;
            for (int index = 0; index < breakCount; index++) {
                if (refusal(sponsor, seconds, index) == NO_REASON) {
                    int itsPrice = priceOf(sponsor, seconds, index);
                    if (best < 0 || itsPrice < bestPrice) {
                        best = index;
                        bestPrice = itsPrice;
                    }
                }
            }
            return best;
        }

        int widestBreak(int sponsor, int seconds) {
            int best = -1;
            for (int index = 0; index < breakCount; index++) {
                boolean wider = best < 0 || list[index].audience > list[best].audience;
                if (wider && refusal(sponsor, seconds, index) == NO_REASON) {
                    best = index;
                }
            }
            return best;
        }

        int earliestOpen() {
            for (int index = 0; index < breakCount; index++) {
                if (list[index].state == OPEN) {
                    return index;
                }
            }
            return -1;
        }

        /** Answers the place, or minus the reason. */
        int bookSpot(int sponsor, int seconds, int index) {
            int reason = refusal(sponsor, seconds, index);
            if (reason != NO_REASON) {
                return -reason;
            }
            int itsPrice = priceOf(sponsor, seconds, index);
            SpotRow row = list[index].row;
            int place = placeFor(sponsor, row);
            row.insert(place, sponsor, seconds, itsPrice, 0);
            earned += itsPrice;
            return place;
        }

        /** Books where no place is free of bans, and puts all spots of the break into an order of their sponsors. */
        void bookInOrder(int sponsor, int seconds, int index, int[] order) {
            int itsPrice = priceOf(sponsor, seconds, index);
            SpotRow row = list[index].row;
            row.insert(row.count, sponsor, seconds, itsPrice, 0);
            earned += itsPrice;
            for (int place = 0; place < row.count && place < order.length; place++) {
                row.moveForward(row.placeOf(order[place]), place);
            }
        }

        int bookCheapest(int sponsor, int seconds, int most) {
            for (int booked = 0; booked < most; booked++) {
                int index = cheapestBreak(sponsor, seconds);
                if (index < 0) {
                    return booked;
                }
                bookSpot(sponsor, seconds, index);
            }
            return most;
        }

        boolean canTakeOut(int index, int place) {
            SpotRow row = list[index].row;
            if (list[index].state != OPEN) {
                return false;
            }
            boolean between = place > 0 && place < row.count - 1;
            return !between || !clash(row.sponsors[place - 1], row.sponsors[place + 1]);
        }

        /** Answers the refund. */
        int takeOut(int index, int place) {
            SpotRow row = list[index].row;
            int refund = row.prices[place] / 2;
            row.delete(place);
            earned -= refund;
            return refund;
        }

        void cancelBreak(int index) {
            AdBreak at = list[index];
            for (int place = 0; place < at.row.count; place++) {
                owedRow.takeOver(at.row, place, owedRow.count, at.audience);
            }
            at.row.count = 0;
            at.state = CANCELLED;
        }

        /** Makes good, and answers how many spots are no longer owed. */
        int settleOwed() {
            int before = owedRow.count;
            int place = 0;
            for (int turn = 0; turn < before && place < owedRow.count; turn++) {
                int index = breakForOwed(place);
                if (index < 0) {
                    place++;
                } else {
                    SpotRow row = list[index].row;
                    row.takeOver(owedRow, place, placeFor(owedRow.sponsors[place], row), 0);
                    owedRow.delete(place);
                }
            }
            return before - owedRow.count;
        }

        private int breakForOwed(int place) {
            for (int index = 0; index < breakCount; index++) {
                boolean wide = list[index].audience >= owedRow.leastAudiences[place];
                if (wide && refusal(owedRow.sponsors[place], owedRow.seconds[place], index) == NO_REASON) {
                    return index;
                }
            }
            return -1;
        }
    }

    /** The plan as it is, and as it was before each change that can be undone. */
    private static final class History {
        final Plan[] plans;
        int current;
        int undoable;

        History() {
            plans = new Plan[MOST_CHANGES + 1];
            for (int each = 0; each < plans.length; each++) {
                plans[each] = new Plan();
            }
            current = 0;
            undoable = 0;
        }

        Plan latest() {
            return plans[current];
        }

        /** Keeps the plan for undo, and hands out a copy of it to be changed. */
        Plan beginChange() {
            int next = current + 1 < plans.length ? current + 1 : 0;
            plans[next].copyFrom(plans[current]);
            current = next;
            undoable = Math.min(undoable + 1, MOST_CHANGES);
            return plans[current];
        }

        /** Answers how many changes can still be undone; -1 if there was none. */
        int stepBack() {
            if (undoable == 0) {
                return -1;
            }
            current = current > 0 ? current - 1 : plans.length - 1;
            undoable--;
            return undoable;
        }
    }

    /** Finds the orders of a set of sponsors in which no ban is broken. */
    private static final class Arranger {
        /** At each sponsor: the sponsors that may stand beside it, as bits. */
        final int[] friends;
        /** For each set and each sponsor of it: the number of arrangements that begin with this one. */
        final int[][] beginning;
        /** The arrangement that findFirst found. */
        final int[] order;

        Arranger() {
            friends = new int[MOST_SPONSORS];
            beginning = new int[1 << MOST_SPONSORS][MOST_SPONSORS];
            order = new int[MOST_SPONSORS];
        }

        int countOrders(Plan plan, int set) {
            if (set == 0) {
                return 1;
            }
            countBeginnings(plan, set);
            return sumOver(set, set);
        }

        /** Puts the first arrangement into order, if there is one. */
        boolean findFirst(Plan plan, int set) {
            countBeginnings(plan, set);
            int left = set;
            int allowed = set;
            for (int place = 0; place < MOST_SPONSORS && left != 0; place++) {
                int next = smallestBeginning(left, allowed);
                if (next < 0) {
                    return false;
                }
                order[place] = next;
                left &= ~(1 << next);
                allowed = left & friends[next];
            }
            return true;
        }

        private void countBeginnings(Plan plan, int set) {
            findFriends(plan);
            for (int part = 1; part < beginning.length && part <= set; part++) {
                if ((part & ~set) == 0) {
                    countBeginningsOf(part);
                }
            }
        }

        private void findFriends(Plan plan) {
            for (int one = 0; one < plan.sponsorCount; one++) {
                friends[one] = 0;
                for (int other = 0; other < plan.sponsorCount; other++) {
                    if (!plan.clash(one, other)) {
                        friends[one] |= 1 << other;
                    }
                }
            }
        }

        private void countBeginningsOf(int part) {
            for (int first = 0; first < MOST_SPONSORS; first++) {
                int rest = part & ~(1 << first);
                if (rest == 0) {
                    beginning[part][first] = 1;
                } else if (rest != part) {
                    beginning[part][first] = sumOver(rest, rest & friends[first]);
                }
            }
        }

        private int sumOver(int part, int firsts) {
            int sum = 0;
            for (int first = 0; first < MOST_SPONSORS; first++) {
                if ((firsts >> first & 1) != 0) {
                    sum += beginning[part][first];
                }
            }
            return sum;
        }

        private int smallestBeginning(int part, int firsts) {
            for (int first = 0; first < MOST_SPONSORS; first++) {
                if ((firsts >> first & 1) != 0 && beginning[part][first] > 0) {
                    return first;
                }
            }
            return -1;
        }
    }

    /** Cuts a setup text into tokens, of which it shows one at a time. */
    private static final class Tokens {
        static final int END = 0;
        static final int WORD = 1;
        static final int NUMBER = 2;
        static final int OTHER = 3;

        byte[] text;
        int length;
        int kind;
        int start;
        int end;
        /** The value of a number, or some value above all ranges if the number is above them too. */
        int value;

        Tokens() {
            text = new byte[0];
        }

        void begin(byte[] newText, int newLength) {
            text = newText;
            length = Math.min(newLength, newText.length);
            end = 0;
            advance();
        }

        void advance() {
            start = end;
            while (start < length && text[start] == ' ') {
                start++;
            }
            end = start;
            value = 0;
            while (end < length && text[end] >= 'a' && text[end] <= 'z') {
                end++;
            }
            if (end > start) {
                kind = WORD;
                return;
            }
            while (end < length && text[end] >= '0' && text[end] <= '9') {
                // A number of any length must stay out of range once it is.
                value = value > MOST_FACTOR ? value : 10 * value + text[end] - '0';
                end++;
            }
            if (end > start) {
                kind = NUMBER;
                return;
            }
            kind = start < length ? OTHER : END;
            end = Math.min(start + 1, length);
        }

        boolean isWord(String word) {
            if (kind != WORD || end - start != word.length()) {
                return false;
            }
            for (int at = 0; at < word.length(); at++) {
                if (text[start + at] != word.charAt(at)) {
                    return false;
                }
            }
            return true;
        }

        boolean isSign(char sign) {
            return kind == OTHER && start < length && text[start] == sign;
        }
    }

    /** Reads a setup text into a plan, up to its first error. */
    private static final class SetupReader {
        final Tokens tokens;
        /** The first error and its offset; 0 and -1 if there is none. */
        int error;
        int errorAt;
        /** The number that takeNumber took. */
        int taken;
        int banCount;
        boolean priceRead;

        SetupReader() {
            tokens = new Tokens();
        }

        /** Answers whether the text has no error. */
        boolean readSetup(byte[] text, int length, Plan plan) {
            plan.clear();
            error = 0;
            errorAt = -1;
            banCount = 0;
            priceRead = false;
            tokens.begin(text, length);
            if (!takeWord("radio") || !takeSign(';')) {
                return false;
            }
            for (int turn = 0; turn < MOST_BYTES && tokens.kind != Tokens.END; turn++) {
                if (!readStatement(plan) || !takeSign(';')) {
                    return false;
                }
            }
            return true;
        }

        private boolean readStatement(Plan plan) {
            if (tokens.isWord("break")) {
                return readBreak(plan);
            }
            if (tokens.isWord("sponsor")) {
                return readSponsor(plan);
            }
            if (tokens.isWord("ban")) {
                return readBan(plan);
            }
            if (!tokens.isWord("price") || priceRead) {
                return fail(SYNTAX_ERROR);
            }
            tokens.advance();
            priceRead = true;
            plan.formula.clear();
            return readSum(plan.formula, 0);
        }

        private boolean readBreak(Plan plan) {
            if (plan.breakCount >= MOST_BREAKS) {
                return fail(TOO_MANY);
            }
            tokens.advance();
            if (!takeNumber(0, LAST_DAY)) {
                return false;
            }
            int day = taken;
            if (tokens.kind == Tokens.NUMBER && plan.hasBreakAt(day, tokens.value)) {
                return fail(OUT_OF_RANGE);
            }
            if (!takeNumber(0, LAST_HOUR)) {
                return false;
            }
            int hour = taken;
            if (!takeNumber(LEAST_BREAK, LONGEST_BREAK)) {
                return false;
            }
            int length = taken;
            if (!takeNumber(0, MOST_AUDIENCE)) {
                return false;
            }
            plan.addBreak(day, hour, length, taken);
            return true;
        }

        private boolean readSponsor(Plan plan) {
            if (plan.sponsorCount >= MOST_SPONSORS) {
                return fail(TOO_MANY);
            }
            tokens.advance();
            if (!takeNumber(0, LAST_CATEGORY)) {
                return false;
            }
            int category = taken;
            if (!takeNumber(1, MOST_CAP)) {
                return false;
            }
            plan.addSponsor(category, taken);
            return true;
        }

        private boolean readBan(Plan plan) {
            if (banCount >= MOST_BANS) {
                return fail(TOO_MANY);
            }
            tokens.advance();
            if (!takeNumber(0, LAST_CATEGORY)) {
                return false;
            }
            int category = taken;
            if (!takeNumber(0, LAST_CATEGORY)) {
                return false;
            }
            plan.addBan(category, taken);
            banCount++;
            return true;
        }

        private boolean readSum(Formula formula, int depth) {
            if (!readTerm(formula, depth)) {
                return false;
            }
            for (int turn = 0; turn < MOST_BYTES; turn++) {
                int operator = tokens.isSign('+') ? Formula.ADD : Formula.SUBTRACT;
                if (operator == Formula.SUBTRACT && !tokens.isSign('-')) {
                    return true;
                }
                tokens.advance();
                if (!readTerm(formula, depth)) {
                    return false;
                }
                formula.emit(operator);
            }
            return true;
        }

        private boolean readTerm(Formula formula, int depth) {
            if (!readFactor(formula, depth)) {
                return false;
            }
            for (int turn = 0; turn < MOST_BYTES; turn++) {
                int operator = tokens.isSign('*') ? Formula.MULTIPLY : Formula.DIVIDE;
                if (operator == Formula.DIVIDE && !tokens.isSign('/')) {
                    return true;
                }
                tokens.advance();
                if (!readFactor(formula, depth)) {
                    return false;
                }
                formula.emit(operator);
            }
            return true;
        }

        private boolean readFactor(Formula formula, int depth) {
            if (tokens.isSign('(')) {
                if (depth >= MOST_NESTED) {
                    return fail(TOO_DEEP);
                }
                tokens.advance();
                return readSum(formula, depth + 1) && takeSign(')');
            }
            if (tokens.kind == Tokens.NUMBER) {
                if (!takeNumber(0, MOST_FACTOR)) {
                    return false;
                }
                formula.emit(taken);
                return true;
            }
            int code = codeOfWord();
            if (code == 0) {
                return fail(SYNTAX_ERROR);
            }
            tokens.advance();
            formula.emit(code);
            return true;
        }

        /** The code of a word that may be a factor; 0 for any other token. */
        private int codeOfWord() {
            if (tokens.isWord("audience")) {
                return Formula.AUDIENCE;
            }
            if (tokens.isWord("hour")) {
                return Formula.HOUR;
            }
            if (tokens.isWord("seconds")) {
                return Formula.SECONDS;
            }
            if (tokens.isWord("used")) {
                return Formula.USED;
            }
            return tokens.isWord("spots") ? Formula.SPOTS : 0;
        }

        private boolean takeWord(String word) {
            if (!tokens.isWord(word)) {
                return fail(SYNTAX_ERROR);
            }
            tokens.advance();
            return true;
        }

        private boolean takeSign(char sign) {
            if (!tokens.isSign(sign)) {
                return fail(SYNTAX_ERROR);
            }
            tokens.advance();
            return true;
        }

        private boolean takeNumber(int least, int most) {
            if (tokens.kind != Tokens.NUMBER) {
                return fail(SYNTAX_ERROR);
            }
            if (tokens.value < least || tokens.value > most) {
                return fail(OUT_OF_RANGE);
            }
            taken = tokens.value;
            tokens.advance();
            return true;
        }

        /** Notes an error at the token that is shown, and answers false. */
        private boolean fail(int code) {
            error = code;
            errorAt = tokens.start;
            return false;
        }
    }
}

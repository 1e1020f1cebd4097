import java.util.ArrayList;
import java.util.Comparator;
import java.util.List;
import java.util.NoSuchElementException;
import java.util.regex.Matcher;
import java.util.regex.Pattern;

/** The document once more, as plain as can be and with the whole Java library, to compare AdBreaks with. */
final class Model {
    interface Price {
        long of(Pause pause, int seconds, int used, int spots);
    }

    static final class Spot {
        int sponsor, seconds, price, least;

        Spot(int sponsor, int seconds, int price, int least) {
            this.sponsor = sponsor;
            this.seconds = seconds;
            this.price = price;
            this.least = least;
        }
    }

    static final class Pause {
        int day, hour, seconds, audience, state;
        List<Spot> spots = new ArrayList<>();

        int used() {
            return spots.stream().mapToInt(s -> s.seconds).sum();
        }
    }

    static final class Data {
        List<Pause> pauses = new ArrayList<>();
        List<int[]> sponsors = new ArrayList<>();
        List<int[]> bans = new ArrayList<>();
        Price rule = null;
        List<Spot> owed = new ArrayList<>();
        int income = 0;

        Data copy() {
            Data copy = new Data();
            for (Pause p : pauses) {
                Pause q = new Pause();
                q.day = p.day;
                q.hour = p.hour;
                q.seconds = p.seconds;
                q.audience = p.audience;
                q.state = p.state;
                q.spots = new ArrayList<>(p.spots);
                copy.pauses.add(q);
            }
            sponsors.forEach(s -> copy.sponsors.add(s.clone()));
            copy.bans.addAll(bans);
            copy.rule = rule;
            copy.owed = new ArrayList<>(owed);
            copy.income = income;
            return copy;
        }
    }

    static final class SetupError extends RuntimeException {
        private static final long serialVersionUID = 1;
        final int code, offset;

        SetupError(int code, int offset) {
            this.code = code;
            this.offset = offset;
        }
    }

    private StringBuilder buffer = new StringBuilder();
    private int errorOffset = -1;
    private Data now = new Data();
    private final List<Data> before = new ArrayList<>();

    int append(int w0, int w1, int w2, int w3, int w4) {
        if (buffer.length() + 20 > 800) {
            return -1;
        }
        for (int w : new int[] {w0, w1, w2, w3, w4}) {
            for (int k = 3; k >= 0; k--) {
                buffer.append((char) (w >>> 8 * k & 255));
            }
        }
        return buffer.length();
    }

    int load(int length) {
        if (length < 0 || length > buffer.length()) {
            throw new IllegalArgumentException();
        }
        String text = buffer.substring(0, length);
        buffer = new StringBuilder();
        try {
            Data read = new Parser(text).setup();
            change();
            now = read;
            errorOffset = -1;
            return now.pauses.size();
        } catch (SetupError e) {
            errorOffset = e.offset;
            return e.code;
        }
    }

    int errorOffset() {
        return errorOffset;
    }

    int breaks() {
        return now.pauses.size();
    }

    int sponsors() {
        return now.sponsors.size();
    }

    int breakOf(int index, int what) {
        Pause p = pause(index);
        argument(what, 0, 6);
        return new int[] {p.day, p.hour, p.seconds, p.audience, p.state, p.spots.size(), p.used()}[what];
    }

    int spot(int index, int place, int what) {
        Pause p = pause(index);
        element(place, p.spots.size());
        argument(what, 0, 2);
        Spot s = p.spots.get(place);
        return new int[] {s.sponsor, s.seconds, s.price}[what];
    }

    int sponsor(int sponsor, int what) {
        index(sponsor, now.sponsors.size());
        argument(what, 0, 4);
        int[] told = {now.sponsors.get(sponsor)[0], now.sponsors.get(sponsor)[1], count(sponsor, -1, false),
            count(sponsor, -1, true), (int) now.owed.stream().filter(s -> s.sponsor == sponsor).count()};
        return told[what];
    }

    boolean isBanned(int category, int other) {
        argument(category, 0, 9);
        argument(other, 0, 9);
        return now.bans.stream().anyMatch(b -> b[0] == category && b[1] == other || b[1] == category && b[0] == other);
    }

    int spotsOn(int sponsor, int day) {
        index(sponsor, now.sponsors.size());
        argument(day, 0, 6);
        return count(sponsor, day, false);
    }

    int reason(int sponsor, int seconds, int index) {
        check(sponsor, seconds, index);
        Pause p = now.pauses.get(index);
        if (p.state != 0) {
            return 1;
        }
        if (p.spots.stream().anyMatch(s -> s.sponsor == sponsor)) {
            return 2;
        }
        if (count(sponsor, p.day, false) >= now.sponsors.get(sponsor)[1]) {
            return 3;
        }
        if (p.seconds - p.used() < seconds) {
            return 4;
        }
        return place(sponsor, p) < 0 ? 5 : 0;
    }

    int price(int sponsor, int seconds, int index) {
        check(sponsor, seconds, index);
        Pause p = now.pauses.get(index);
        long value = now.rule == null ? p.audience * seconds / 10
            : now.rule.of(p, seconds, p.used(), count(sponsor, -1, false));
        return (int) limit(value, 0, 99999);
    }

    int cheapest(int sponsor, int seconds) {
        index(sponsor, now.sponsors.size());
        argument(seconds, 5, 60);
        return accepting(sponsor, seconds).stream().min(Comparator.comparing(k -> price(sponsor, seconds, k))).orElse(-1);
    }

    int widest(int sponsor, int seconds) {
        index(sponsor, now.sponsors.size());
        argument(seconds, 5, 60);
        return accepting(sponsor, seconds).stream().min(Comparator.comparing(k -> -now.pauses.get(k).audience)).orElse(-1);
    }

    int income() {
        return now.income;
    }

    int owed() {
        return now.owed.size();
    }

    int owedSpot(int index, int what) {
        element(index, now.owed.size());
        argument(what, 0, 3);
        Spot s = now.owed.get(index);
        return new int[] {s.sponsor, s.seconds, s.price, s.least}[what];
    }

    int arrangements(int set) {
        argument(set, 0, (int) Math.pow(2, now.sponsors.size()) - 1);
        List<List<Integer>> all = new ArrayList<>();
        collect(set, new ArrayList<>(), all, Integer.MAX_VALUE);
        return all.size();
    }

    int arranged(int set, int place) {
        argument(set, 0, (int) Math.pow(2, now.sponsors.size()) - 1);
        index(place, Integer.bitCount(set));
        List<Integer> first = first(set);
        return first == null ? -1 : first.get(place);
    }

    int book(int sponsor, int seconds, int index) {
        check(sponsor, seconds, index);
        change();
        return put(sponsor, seconds, index);
    }

    int bookAnyhow(int sponsor, int seconds, int index) {
        check(sponsor, seconds, index);
        change();
        Pause p = now.pauses.get(index);
        int set = 1 << sponsor;
        for (Spot s : p.spots) {
            set |= 1 << s.sponsor;
        }
        if (reason(sponsor, seconds, index) != 5 || first(set) == null) {
            return put(sponsor, seconds, index);
        }
        List<Integer> order = first(set);
        int price = price(sponsor, seconds, index);
        now.income += price;
        p.spots.add(new Spot(sponsor, seconds, price, 0));
        p.spots.sort(Comparator.comparing(s -> order.indexOf(s.sponsor)));
        return order.indexOf(sponsor);
    }

    int remove(int index, int place) {
        Pause p = pause(index);
        element(place, p.spots.size());
        List<Spot> left = new ArrayList<>(p.spots);
        Spot gone = left.remove(place);
        boolean broken = place > 0 && place < left.size() && clash(left.get(place - 1).sponsor, left.get(place).sponsor);
        if (p.state != 0 || broken) {
            throw new IllegalStateException();
        }
        change();
        now.pauses.get(index).spots = left;
        now.income -= gone.price / 2;
        return gone.price / 2;
    }

    int air() {
        for (int k = 0; k < now.pauses.size(); k++) {
            if (now.pauses.get(k).state == 0) {
                change();
                now.pauses.get(k).state = 1;
                return now.pauses.get(k).spots.size();
            }
        }
        throw new IllegalStateException();
    }

    int cancel(int index) {
        if (pause(index).state != 0) {
            throw new IllegalStateException();
        }
        change();
        Pause p = now.pauses.get(index);
        p.spots.forEach(s -> now.owed.add(new Spot(s.sponsor, s.seconds, s.price, p.audience)));
        p.spots.clear();
        p.state = 2;
        return now.owed.size();
    }

    int makeGood() {
        change();
        List<Spot> left = new ArrayList<>();
        int good = 0;
        for (Spot s : now.owed) {
            int to = accepting(s.sponsor, s.seconds).stream()
                .filter(k -> now.pauses.get(k).audience >= s.least).findFirst().orElse(-1);
            if (to < 0) {
                left.add(s);
            } else {
                Pause p = now.pauses.get(to);
                p.spots.add(place(s.sponsor, p), s);
                good++;
            }
        }
        now.owed = left;
        return good;
    }

    int campaign(int sponsor, int seconds, int most) {
        index(sponsor, now.sponsors.size());
        argument(seconds, 5, 60);
        argument(most, 1, 20);
        change();
        int booked = 0;
        while (booked < most && cheapest(sponsor, seconds) >= 0) {
            put(sponsor, seconds, cheapest(sponsor, seconds));
            booked++;
        }
        return booked;
    }

    int setCap(int sponsor, int cap) {
        index(sponsor, now.sponsors.size());
        argument(cap, 1, 9);
        change();
        int previous = now.sponsors.get(sponsor)[1];
        now.sponsors.get(sponsor)[1] = cap;
        return previous;
    }

    int undo() {
        if (before.isEmpty()) {
            return -1;
        }
        now = before.remove(before.size() - 1);
        return before.size();
    }

    long checksum() {
        List<Integer> numbers = new ArrayList<>();
        for (Pause p : now.pauses) {
            numbers.add(p.state);
            p.spots.forEach(s -> numbers.addAll(List.of(s.sponsor, s.seconds, s.price)));
        }
        now.owed.forEach(s -> numbers.addAll(List.of(s.sponsor, s.seconds, s.price, s.least)));
        now.sponsors.forEach(s -> numbers.add(s[1]));
        numbers.add(now.income);
        long sum = 0;
        for (int n : numbers) {
            sum = 31 * sum + n;
        }
        return sum;
    }

    private void change() {
        before.add(now.copy());
        if (before.size() > 8) {
            before.remove(0);
        }
    }

    private Pause pause(int index) {
        index(index, now.pauses.size());
        return now.pauses.get(index);
    }

    private static void index(int index, int size) {
        if (index < 0 || index >= size) {
            throw new IndexOutOfBoundsException();
        }
    }

    private static void element(int index, int size) {
        if (index < 0 || index >= size) {
            throw new NoSuchElementException();
        }
    }

    private static void argument(int value, int least, int most) {
        if (value < least || value > most) {
            throw new IllegalArgumentException();
        }
    }

    private void check(int sponsor, int seconds, int index) {
        index(sponsor, now.sponsors.size());
        index(index, now.pauses.size());
        argument(seconds, 5, 60);
    }

    private int count(int sponsor, int day, boolean airedOnly) {
        int count = 0;
        for (Pause p : now.pauses) {
            if ((day < 0 || p.day == day) && p.state != 2 && (!airedOnly || p.state == 1)) {
                count += (int) p.spots.stream().filter(s -> s.sponsor == sponsor).count();
            }
        }
        return count;
    }

    private boolean clash(int one, int other) {
        return isBanned(now.sponsors.get(one)[0], now.sponsors.get(other)[0]);
    }

    private int place(int sponsor, Pause p) {
        for (int place = 0; place <= p.spots.size(); place++) {
            List<Integer> row = new ArrayList<>();
            p.spots.forEach(s -> row.add(s.sponsor));
            row.add(place, sponsor);
            boolean good = true;
            for (int k = 1; k < row.size(); k++) {
                good &= !clash(row.get(k - 1), row.get(k));
            }
            if (good) {
                return place;
            }
        }
        return -1;
    }

    private List<Integer> accepting(int sponsor, int seconds) {
        List<Integer> all = new ArrayList<>();
        for (int k = 0; k < now.pauses.size(); k++) {
            if (reason(sponsor, seconds, k) == 0) {
                all.add(k);
            }
        }
        return all;
    }

    private int put(int sponsor, int seconds, int index) {
        int reason = reason(sponsor, seconds, index);
        if (reason > 0) {
            return -reason;
        }
        int price = price(sponsor, seconds, index);
        Pause p = now.pauses.get(index);
        int place = place(sponsor, p);
        p.spots.add(place, new Spot(sponsor, seconds, price, 0));
        now.income += price;
        return place;
    }

    private List<Integer> first(int set) {
        List<List<Integer>> all = new ArrayList<>();
        collect(set, new ArrayList<>(), all, 1);
        return all.isEmpty() ? null : all.get(0);
    }

    private void collect(int set, List<Integer> row, List<List<Integer>> all, int most) {
        if (set == 0) {
            all.add(new ArrayList<>(row));
        }
        for (int k = 0; k < 8 && all.size() < most; k++) {
            if ((set & 1 << k) != 0 && (row.isEmpty() || !clash(row.get(row.size() - 1), k))) {
                row.add(k);
                collect(set & ~(1 << k), row, all, most);
                row.remove(row.size() - 1);
            }
        }
    }

    static long limit(long value, long least, long most) {
        return value < least ? least : value > most ? most : value;
    }

    /** Reads a setup text; throws SetupError at its first error. */
    private static final class Parser {
        private static final Pattern TOKEN = Pattern.compile(" *([a-z]+|[0-9]+|[^ ]|$)", Pattern.DOTALL);
        private final List<String> tokens = new ArrayList<>();
        private final List<Integer> offsets = new ArrayList<>();
        private int at = 0;

        Parser(String text) {
            Matcher m = TOKEN.matcher(text);
            int from = 0;
            do {
                m.find(from);
                tokens.add(m.group(1));
                offsets.add(m.start(1));
                from = m.end();
            } while (!m.group(1).isEmpty());
        }

        private String token() {
            return tokens.get(at);
        }

        private SetupError error(int code) {
            return new SetupError(code, offsets.get(at));
        }

        private void expect(String token) {
            if (!token().equals(token)) {
                throw error(-2);
            }
            at++;
        }

        private int number(int least, int most) {
            if (!token().matches("[0-9]+")) {
                throw error(-2);
            }
            java.math.BigInteger n = new java.math.BigInteger(token());
            if (n.bitLength() > 30 || n.intValue() < least || n.intValue() > most) {
                throw error(-3);
            }
            at++;
            return n.intValue();
        }

        Data setup() {
            Data data = new Data();
            expect("radio");
            expect(";");
            while (!token().isEmpty()) {
                statement(data);
                expect(";");
            }
            data.pauses.sort(Comparator.comparing(p -> 24 * p.day + p.hour));
            return data;
        }

        private void statement(Data data) {
            switch (token()) {
                case "break" -> pause(data);
                case "sponsor" -> {
                    room(data.sponsors.size(), 8);
                    data.sponsors.add(new int[] {number(0, 9), number(1, 9)});
                }
                case "ban" -> {
                    room(data.bans.size(), 10);
                    data.bans.add(new int[] {number(0, 9), number(0, 9)});
                }
                case "price" -> {
                    if (data.rule != null) {
                        throw error(-2);
                    }
                    at++;
                    data.rule = sum(0);
                }
                default -> throw error(-2);
            }
        }

        private void room(int size, int most) {
            if (size == most) {
                throw error(-4);
            }
            at++;
        }

        private void pause(Data data) {
            room(data.pauses.size(), 20);
            Pause p = new Pause();
            p.day = number(0, 6);
            p.hour = number(0, 23);
            if (data.pauses.stream().anyMatch(q -> q.day == p.day && q.hour == p.hour)) {
                at--;
                throw error(-3);
            }
            p.seconds = number(10, 300);
            p.audience = number(0, 999);
            data.pauses.add(p);
        }

        private Price sum(int depth) {
            Price left = term(depth);
            while (token().equals("+") || token().equals("-")) {
                int sign = tokens.get(at++).equals("+") ? 1 : -1;
                Price a = left, b = term(depth);
                left = (p, s, u, n) -> limit(a.of(p, s, u, n) + sign * b.of(p, s, u, n), -1000000, 1000000);
            }
            return left;
        }

        private Price term(int depth) {
            Price left = factor(depth);
            while (token().equals("*") || token().equals("/")) {
                boolean times = tokens.get(at++).equals("*");
                Price a = left, b = factor(depth);
                left = (p, s, u, n) -> {
                    long x = a.of(p, s, u, n), y = b.of(p, s, u, n);
                    return limit(times ? x * y : y == 0 ? 0 : x / y, -1000000, 1000000);
                };
            }
            return left;
        }

        private Price factor(int depth) {
            if (token().matches("[0-9]+")) {
                int n = number(0, 9999);
                return (p, s, u, k) -> n;
            }
            Price word = switch (token()) {
                case "audience" -> (p, s, u, n) -> p.audience;
                case "hour" -> (p, s, u, n) -> p.hour;
                case "seconds" -> (p, s, u, n) -> s;
                case "used" -> (p, s, u, n) -> u;
                case "spots" -> (p, s, u, n) -> n;
                default -> null;
            };
            if (word != null) {
                at++;
                return word;
            }
            if (!token().equals("(")) {
                throw error(-2);
            }
            if (depth == 4) {
                throw error(-5);
            }
            at++;
            Price inner = sum(depth + 1);
            expect(")");
            return inner;
        }
    }
}

import java.lang.reflect.InvocationTargetException;
import java.lang.reflect.Method;
import java.lang.reflect.Modifier;
import java.util.Arrays;

/** Compares AdBreaks with Model over many made-up runs of calls; the runs are the same each time. */
final class ModelTest {
    private static final int RUNS = 1500;
    private static final int CALLS = 400;
    private static final int[] NO_ARGUMENTS = new int[0];
    private static final String[] QUERIES = {"errorOffset", "breaks", "sponsors", "income", "owed", "checksum"};

    private static long seed;
    private static int wrong = 0;

    public static void main(String[] args) {
        for (int run = 0; run < RUNS && wrong < 20; run++) {
            seed = 77777L * run + 13;
            compare(run);
        }
        System.out.println("ModelTest: " + RUNS + " runs, " + wrong + " wrong");
        if (wrong != 0) {
            System.exit(1);
        }
    }

    /** From 0 to below - 1. */
    private static int some(int below) {
        seed = seed * 6364136223846793005L + 1442695040888963407L;
        return (int) ((seed >>> 33) % below);
    }

    private static boolean oneIn(int times) {
        return some(times) == 0;
    }

    private static void compare(int run) {
        AdBreaks radio = new AdBreaks();
        Model model = new Model();
        StringBuilder told = new StringBuilder();
        boolean same = load(radio, model, 8, told);
        for (int call = 0; call < CALLS && same; call++) {
            if (oneIn(60)) {
                same = load(radio, model, oneIn(2) ? 0 : 8, told);
            } else {
                same = step(radio, model, told);
            }
            same = same && ask(radio, model, "checksum", NO_ARGUMENTS, told);
        }
        if (!same) {
            wrong++;
            System.out.println("run " + run + ": " + told);
        }
    }

    private static boolean load(AdBreaks radio, Model model, int soundIn8, StringBuilder told) {
        String text = some(8) < soundIn8 ? setup() : spoil(setup());
        told.append('"').append(text).append("\" ");
        boolean same = true;
        for (int at = 0; at < text.length() && same; at += 20) {
            int[] words = new int[5];
            for (int k = 0; k < 5; k++) {
                words[k] = Check.word(text, at + 4 * k);
            }
            same = ask(radio, model, "append", words, told);
        }
        int length = oneIn(30) ? some(900) - 10 : text.length();
        return same && ask(radio, model, "load", new int[] {length}, told)
            && ask(radio, model, "errorOffset", NO_ARGUMENTS, told);
    }

    private static String setup() {
        StringBuilder text = new StringBuilder("radio;");
        int breaks = oneIn(4) ? 16 + some(6) : 1 + some(8);
        int days = 1 + some(7);
        int sponsors = oneIn(5) ? some(10) : 3 + some(6);
        int bans = oneIn(10) ? 9 + some(3) : some(8);
        int categories = 1 + some(5);
        if (oneIn(2)) {
            text.append("price ").append(sum(0)).append(';');
        }
        for (int k = 0; k < sponsors; k++) {
            text.append("sponsor ").append(some(categories)).append(' ').append(1 + some(oneIn(2) ? 3 : 9)).append(';');
        }
        for (int k = 0; k < bans; k++) {
            text.append("ban ").append(some(categories)).append(' ').append(some(categories)).append(';');
        }
        for (int k = 0; k < breaks; k++) {
            text.append("break ").append(some(days)).append(' ').append(oneIn(40) ? some(24) : k % 24).append(' ')
                .append(oneIn(3) ? 10 + some(50) : 60 + some(241)).append(' ').append(some(oneIn(2) ? 5 : 1000)).append(';');
        }
        return text.length() > 800 ? text.substring(0, 800) : text.toString();
    }

    private static String sum(int depth) {
        String sum = term(depth);
        for (int k = some(3); k > 0; k--) {
            sum += (oneIn(2) ? "+" : "-") + term(depth);
        }
        return sum;
    }

    private static String term(int depth) {
        String term = factor(depth);
        for (int k = some(3); k > 0; k--) {
            term += (oneIn(2) ? "*" : "/") + factor(depth);
        }
        return term;
    }

    private static String factor(int depth) {
        switch (some(depth < 4 ? 9 : 7)) {
            case 0: return "audience";
            case 1: return "hour ";
            case 2: return "seconds";
            case 3: return "used";
            case 4: return "spots";
            case 5: return "" + some(10000);
            case 6: return "" + some(4);
            default: return oneIn(8) ? "(" + sum(depth + 1) + ")" : "( " + factor(depth + 1) + ")";
        }
    }

    private static String spoil(String text) {
        StringBuilder spoilt = new StringBuilder(text);
        String bits = " ;()+-*/0123456789abprk";
        String[] runs = {"price 1;", "break 0 0 10 0;", "ban 0 0;", "sponsor 0 1;", "((((", "99999999999", "\u0000", "\u00ff"};
        for (int k = 1 + some(2); k > 0; k--) {
            int at = some(spoilt.length());
            switch (some(4)) {
                case 0: spoilt.deleteCharAt(at); break;
                case 1: spoilt.setCharAt(at, bits.charAt(some(bits.length()))); break;
                case 2: spoilt.insert(at, bits.charAt(some(bits.length()))); break;
                default: spoilt.insert(oneIn(2) ? at : spoilt.indexOf(";") + 1, runs[some(runs.length)]); break;
            }
        }
        return spoilt.length() > 800 ? spoilt.substring(0, 800) : spoilt.toString();
    }

    /** Mostly a number in the range; seldom one beside it or far from it. */
    private static int near(int least, int most) {
        if (oneIn(25)) {
            int[] odd = {least - 1, most + 1, Integer.MIN_VALUE, Integer.MAX_VALUE, -1, most};
            return odd[some(odd.length)];
        }
        return most < least ? least : least + some(most - least + 1);
    }

    private static boolean step(AdBreaks radio, Model model, StringBuilder told) {
        int index = near(0, model.breaks() - 1);
        int sponsor = near(0, model.sponsors() - 1);
        int seconds = oneIn(3) ? near(5, 60) : near(5, 15);
        int spots = index >= 0 && index < model.breaks() ? model.breakOf(index, 5) : 0;
        int place = near(0, spots - 1);
        int set = near(0, (1 << model.sponsors()) - 1);
        switch (some(36)) {
            case 0: return ask(radio, model, "breakOf", new int[] {index, near(0, 6)}, told);
            case 1: return ask(radio, model, "spot", new int[] {index, place, near(0, 2)}, told);
            case 2: return ask(radio, model, "sponsor", new int[] {sponsor, near(0, 4)}, told);
            case 3: return ask(radio, model, "isBanned", new int[] {near(0, 9), near(0, 9)}, told);
            case 4: return ask(radio, model, "spotsOn", new int[] {sponsor, near(0, 6)}, told);
            case 5: case 6: return ask(radio, model, "reason", new int[] {sponsor, seconds, index}, told);
            case 7: case 8: return ask(radio, model, "price", new int[] {sponsor, seconds, index}, told);
            case 9: return ask(radio, model, "cheapest", new int[] {sponsor, seconds}, told);
            case 10: return ask(radio, model, "widest", new int[] {sponsor, seconds}, told);
            case 11: return ask(radio, model, "owedSpot", new int[] {near(0, model.owed() - 1), near(0, 3)}, told);
            case 12: return ask(radio, model, "arrangements", new int[] {oneIn(9) ? set : set & some(256)}, told);
            case 13: return ask(radio, model, "arranged", new int[] {set, near(0, Integer.bitCount(set) - 1)}, told);
            case 14: case 15: case 16: case 17: case 18: case 19: case 20:
                return ask(radio, model, "book", new int[] {sponsor, seconds, index}, told);
            case 21: case 22: case 23: case 24: case 25: case 26:
                return ask(radio, model, "bookAnyhow", new int[] {sponsor, seconds, index}, told);
            case 27: case 28: return ask(radio, model, "remove", new int[] {index, place}, told);
            case 29: return ask(radio, model, oneIn(4) ? "air" : "makeGood", NO_ARGUMENTS, told);
            case 30: return ask(radio, model, oneIn(2) ? "cancel" : "setCap",
                oneIn(2) ? new int[] {index, near(1, 9)} : new int[] {index, near(1, 3)}, told);
            case 31: return ask(radio, model, "campaign", new int[] {sponsor, seconds, near(1, 20)}, told);
            case 32: return ask(radio, model, "setCap", new int[] {sponsor, near(1, 9)}, told);
            case 33: case 34: return ask(radio, model, "undo", NO_ARGUMENTS, told);
            default: return ask(radio, model, QUERIES[some(QUERIES.length)], NO_ARGUMENTS, told);
        }
    }

    private static boolean ask(AdBreaks radio, Model model, String call, int[] arguments, StringBuilder told) {
        String got = answer(radio, call, arguments);
        String due = answer(model, call, arguments);
        told.append(call).append(Arrays.toString(arguments)).append('=').append(got).append(' ');
        if (!got.equals(due)) {
            told.append(".. due is ").append(due);
        }
        return got.equals(due);
    }

    private static String answer(Object asked, String call, int[] arguments) {
        Method method = methodOf(asked.getClass(), call);
        Object[] given = new Object[method.getParameterCount()];
        for (int k = 0; k < given.length; k++) {
            given[k] = arguments[k];
        }
        try {
            return "" + method.invoke(asked, given);
        } catch (InvocationTargetException e) {
            return "throws." + e.getCause().getClass().getName();
        } catch (IllegalAccessException e) {
            throw new IllegalStateException(e);
        }
    }

    private static Method methodOf(Class<?> type, String name) {
        for (Method method : type.getDeclaredMethods()) {
            if (method.getName().equals(name) && !Modifier.isPrivate(method.getModifiers())) {
                return method;
            }
        }
        throw new IllegalStateException(name);
    }
}

import java.io.File;
import java.io.IOException;
import java.nio.file.Files;
import java.nio.file.Path;
import java.util.HashMap;
import java.util.Map;
import java.util.Set;
import java.util.TreeSet;
import java.util.regex.Matcher;
import java.util.regex.Pattern;

/** README.md: its Java lines stand here too and are run, and its tables are held against the document and the files. */
final class ReadmeTest {
    private static final String TESTS = "src/test/java";
    private static final Map<String, String> SHORT_NAMES = Map.of("IndexOutOfBoundsException", "IOOBE",
        "NoSuchElementException", "NSEE", "IllegalArgumentException", "IAE", "IllegalStateException", "ISE");

    public static void main(String[] args) throws IOException {
        String readme = Files.readString(Path.of("README.md"));
        javaLinesStandHere(readme);
        example(answersTold(readme));
        statements(readme);
        calls(readme, Files.readString(Path.of("../shared/DOC.md")));
        constants(readme);
        files(readme);
        Check.finish("ReadmeTest");
    }

    static int load(AdBreaks radio, String text) {
        for (int at = 0; at < text.length(); at += 20) {
            radio.append(word(text, at), word(text, at + 4), word(text, at + 8), word(text, at + 12), word(text, at + 16));
        }
        return radio.load(text.length());
    }

    static int word(String text, int from) {
        int word = 0;
        for (int at = from; at < from + 4; at++) {
            word = word << 8 | (at < text.length() ? text.charAt(at) : ' ');
        }
        return word;
    }

    private static void example(Map<String, Integer> told) {
        AdBreaks radio = new AdBreaks();
        int breaks = load(radio, "radio; break 0 9 30 50; break 1 9 60 80; sponsor 0 2; sponsor 1 1; ban 0 1;"); // 2
        int place = radio.book(0, 20, 0); // 0, the place at which the spot stands in break 0
        int price = radio.spot(0, place, 2); // 100, which is 50 * 20 / 10
        int refused = radio.book(1, 10, 0); // -5, minus the reason: beside the spot there, the ban would be broken
        int owed = radio.cancel(0); // 1, the spot of break 0 is owed now
        int good = radio.makeGood(); // 1, break 1 takes it, because its audience is not smaller
        int income = radio.income(); // 100, the spot has kept its price
        int left = radio.undo(); // 4, so many changes can still be undone; the spot is owed again
        int error = load(radio, "radio; break 7 9 30 50;"); // -3, which is OUT_OF_RANGE; the data stay as they are
        int offset = radio.errorOffset(); // 13, where the 7 stands

        Map<String, Integer> got = Map.of("breaks", breaks, "place", place, "price", price, "refused", refused,
            "owed", owed, "good", good, "income", income, "left", left, "error", error, "offset", offset);
        Check.same("answers of the example", got.keySet().equals(told.keySet()), true);
        got.forEach((name, answer) -> Check.same("README: " + name, answer, told.getOrDefault(name, Integer.MIN_VALUE)));
        Check.same("the spot is owed again", radio.owed(), 1);
        Check.same("the code that is named", error, AdBreaks.OUT_OF_RANGE);
    }

    /** The example's lines as in "int place = ..; // 0, ..": the name, and the number behind it. */
    private static Map<String, Integer> answersTold(String readme) {
        Map<String, Integer> told = new HashMap<>();
        Matcher line = Pattern.compile("(?m)^int (\\w+) = .*; // (-?\\d+)\\b").matcher(readme);
        while (line.find()) {
            told.put(line.group(1), Integer.parseInt(line.group(2)));
        }
        return told;
    }

    /** Each Java block of the page must stand in this file line by line, so that what is run here is what the page says. */
    private static void javaLinesStandHere(String readme) throws IOException {
        String here = withoutIndents(Files.readString(Path.of(TESTS, "ReadmeTest.java")));
        Matcher block = Pattern.compile("(?s)```java\n(.*?)```").matcher(readme);
        int blocks = 0;
        while (block.find()) {
            blocks++;
            Check.same("README: Java block " + blocks + " in this test", here.contains("\n" + withoutIndents(block.group(1))), true);
        }
        Check.same("README: Java blocks", blocks, 2);
    }

    private static String withoutIndents(String lines) {
        return lines.replaceAll("(?m)^ +", "");
    }

    /** Each statement of the page is read, and may occur as often as the page says, but not once more. */
    private static void statements(String readme) {
        Matcher row = Pattern.compile("(?m)^\\| `((break|sponsor|ban|price) [^`]*;)` \\| .* \\| (\\d+) \\|$").matcher(readme);
        Set<String> missing = new TreeSet<>(Set.of("break", "sponsor", "ban", "price"));
        while (row.find()) {
            String statement = row.group(1);
            int most = Integer.parseInt(row.group(3));
            missing.remove(row.group(2));
            Check.good("radio;" + many(statement, most), row.group(2).equals("break") ? most : 0);
            String beyond = "radio;" + many(statement, most);
            Check.bad(beyond + many(statement, most + 1).substring(beyond.length() - 6),
                row.group(2).equals("price") ? AdBreaks.SYNTAX_ERROR : AdBreaks.TOO_MANY, beyond.length());
        }
        Check.same("README: no statement " + missing, missing.size(), 0);
    }

    /** A statement so many times; breaks with hours and days of their own. */
    private static String many(String statement, int times) {
        StringBuilder text = new StringBuilder();
        for (int k = 0; k < times; k++) {
            text.append(statement.replace("break 0 9 ", "break " + k / 10 + " " + k % 10 + " "));
        }
        return text.toString();
    }

    /** The table of calls against the document's face: the same calls with their arguments and exceptions, changes marked. */
    private static void calls(String readme, String document) {
        Set<String> due = new TreeSet<>();
        Matcher call = Pattern.compile("(?m)^    public (?:int|long|boolean) (\\w+)\\((.*?)\\)(?: throws (.*))?;$").matcher(document);
        while (call.find()) {
            due.add(call.group(1) + "(" + call.group(2).replace("int ", "") + ")" + mark(call.group(1), document)
                + ": " + shortNames(call.group(3)));
        }
        Set<String> told = new TreeSet<>();
        Matcher row = Pattern.compile("(?m)^\\| `(\\w+\\(.*?\\))`( \\*)? \\| .+ \\| ?(.*?) ?\\|$").matcher(readme);
        while (row.find()) {
            told.add(row.group(1) + (row.group(2) == null ? "" : " *") + ": " + row.group(3));
        }
        Check.same("README: calls", told.size(), 29);
        for (String each : due) {
            Check.same("README: the call " + each, told.remove(each), true);
        }
        Check.same("README: not in the document " + told, told.size(), 0);
    }

    private static String mark(String name, String document) {
        int from = document.indexOf("The changing methods are ");
        String changing = document.substring(from, document.indexOf(";", from));
        return changing.matches("(?s).*\\b" + name + "\\b.*") ? " *" : "";
    }

    private static String shortNames(String exceptions) {
        String told = exceptions == null ? "" : exceptions;
        for (Map.Entry<String, String> name : SHORT_NAMES.entrySet()) {
            told = told.replace(name.getKey(), name.getValue());
        }
        return told;
    }

    private static void constants(String readme) {
        int[] codes = {AdBreaks.SYNTAX_ERROR, AdBreaks.OUT_OF_RANGE, AdBreaks.TOO_MANY, AdBreaks.TOO_DEEP};
        String[] names = {"SYNTAX_ERROR", "OUT_OF_RANGE", "TOO_MANY", "TOO_DEEP"};
        for (int k = 0; k < codes.length; k++) {
            Check.same("README: " + names[k], readme.contains("`" + names[k] + "` (" + codes[k] + ")"), true);
        }
        for (Map.Entry<String, String> name : SHORT_NAMES.entrySet()) {
            String told = readme.replaceAll("\\s+", " ");
            boolean explained = told.contains(name.getValue() + " is `" + name.getKey() + "`")
                || told.contains(name.getValue() + " `" + name.getKey() + "`");
            Check.same("README: " + name.getValue(), explained, true);
        }
    }

    /** The page names every file of the tests, and no other. */
    private static void files(String readme) {
        String page = readme.substring(readme.indexOf("\n## Tests"));
        File[] files = new File(TESTS).listFiles();
        Set<String> missing = new TreeSet<>();
        for (File file : files == null ? new File[0] : files) {
            missing.add(file.getName().replace(".java", ""));
        }
        Matcher named = Pattern.compile("`([A-Z]\\w+)`").matcher(page);
        while (named.find()) {
            Check.same("README: " + named.group(1), new File(TESTS, named.group(1) + ".java").exists(), true);
            missing.remove(named.group(1));
        }
        Check.same("README: not named " + missing, missing.size(), 0);
    }
}

import java.io.IOException;
import java.lang.management.ManagementFactory;
import java.lang.reflect.Constructor;
import java.lang.reflect.Field;
import java.lang.reflect.Method;
import java.lang.reflect.Modifier;
import java.nio.file.Files;
import java.nio.file.Path;
import java.util.Arrays;
import java.util.Set;
import java.util.TreeSet;

/** The public face, the rules of LANGUAGE.md that can be seen from outside, and the room that calls take. */
final class FaceTest {
    /** The methods as in the document's section "The public face", their exceptions in the order that it lists. */
    private static final String[] FACE = {
        "int append(int,int,int,int,int)",
        "int load(int) throws IllegalArgumentException",
        "int errorOffset()",
        "int breaks()",
        "int sponsors()",
        "int breakOf(int,int) throws IndexOutOfBoundsException,IllegalArgumentException",
        "int spot(int,int,int) throws IndexOutOfBoundsException,NoSuchElementException,IllegalArgumentException",
        "int sponsor(int,int) throws IndexOutOfBoundsException,IllegalArgumentException",
        "boolean isBanned(int,int) throws IllegalArgumentException",
        "int spotsOn(int,int) throws IndexOutOfBoundsException,IllegalArgumentException",
        "int reason(int,int,int) throws IndexOutOfBoundsException,IllegalArgumentException",
        "int price(int,int,int) throws IndexOutOfBoundsException,IllegalArgumentException",
        "int cheapest(int,int) throws IndexOutOfBoundsException,IllegalArgumentException",
        "int widest(int,int) throws IndexOutOfBoundsException,IllegalArgumentException",
        "int income()",
        "int owed()",
        "int owedSpot(int,int) throws NoSuchElementException,IllegalArgumentException",
        "int arrangements(int) throws IllegalArgumentException",
        "int arranged(int,int) throws IllegalArgumentException,IndexOutOfBoundsException",
        "int book(int,int,int) throws IndexOutOfBoundsException,IllegalArgumentException",
        "int bookAnyhow(int,int,int) throws IndexOutOfBoundsException,IllegalArgumentException",
        "int remove(int,int) throws IndexOutOfBoundsException,NoSuchElementException,IllegalStateException",
        "int air() throws IllegalStateException",
        "int cancel(int) throws IndexOutOfBoundsException,IllegalStateException",
        "int makeGood()",
        "int campaign(int,int,int) throws IndexOutOfBoundsException,IllegalArgumentException",
        "int setCap(int,int) throws IndexOutOfBoundsException,IllegalArgumentException",
        "int undo()",
        "long checksum()"};
    private static final String[] CONSTANTS = {"SYNTAX_ERROR", "OUT_OF_RANGE", "TOO_MANY", "TOO_DEEP"};
    private static final String[] FORBIDDEN = {"->", "::", "Exact", "synchronized", "assert ", "finally", "catch",
        "static {", "java.util.*", "System.out", "Random", "Thread", "package ", "protected ", "double ", "float "};

    public static void main(String[] args) throws IOException {
        face();
        faceOfDocument();
        nested();
        source();
        room();
        Check.finish("FaceTest");
    }

    private static void face() {
        Check.same("face: final", Modifier.isFinal(AdBreaks.class.getModifiers()), true);
        Check.same("face: constructors", AdBreaks.class.getDeclaredConstructors().length, 1);
        Check.same("face: public constructor", AdBreaks.class.getConstructors().length, 1);
        for (Constructor<?> constructor : AdBreaks.class.getConstructors()) {
            Check.same("face: " + constructor, constructor.toString().equals("public AdBreaks()"), true);
        }
        Set<String> methods = new TreeSet<>(Arrays.asList(FACE));
        Set<String> names = new TreeSet<>();
        for (Method method : AdBreaks.class.getDeclaredMethods()) {
            if (Modifier.isPublic(method.getModifiers())) {
                String told = shortForm(method);
                Check.same("face: " + told, methods.remove(told), true);
                names.add(method.getName());
            }
        }
        Check.same("face: missing " + methods, methods.size(), 0);
        for (Method method : AdBreaks.class.getDeclaredMethods()) {
            int modifiers = method.getModifiers();
            boolean sound = Modifier.isPublic(modifiers) || Modifier.isPrivate(modifiers) && !names.contains(method.getName());
            Check.same("face: " + method, sound, true);
        }
        Set<String> constants = new TreeSet<>(Arrays.asList(CONSTANTS));
        for (Field field : AdBreaks.class.getDeclaredFields()) {
            boolean constant = constants.remove(field.getName());
            Check.same("face: " + field, constant || Modifier.isPrivate(field.getModifiers()), true);
            Check.same("face: " + field, Modifier.isPublic(field.getModifiers()), constant);
            Check.same("final: " + field, !Modifier.isStatic(field.getModifiers()) || Modifier.isFinal(field.getModifiers()), true);
        }
        Check.same("face: missing " + constants, constants.size(), 0);
    }

    /** A method as FACE has it; reflection keeps the order of the exceptions. */
    private static String shortForm(Method method) {
        return method.toString().replaceFirst("public ", "").replace("AdBreaks.", "").replaceAll("java\\.(lang|util)\\.", "");
    }

    /** FACE against the document, and the document's own lines, names of parameters and all, against the program. */
    private static void faceOfDocument() throws IOException {
        String document = Files.readString(Path.of("../shared/DOC.md"));
        String source = Files.readString(Path.of("src/main/java/AdBreaks.java"));
        Set<String> methods = new TreeSet<>(Arrays.asList(FACE));
        int from = document.indexOf("public final class AdBreaks {");
        int to = document.indexOf("```", from);
        for (String line : document.substring(from, to).split("\n")) {
            if (line.startsWith("    public ")) {
                String opened = line.contains("(") ? line.replace(";", " {") : line;
                Check.same("face: \"" + line.trim() + "\" in the program", source.contains("\n" + opened + "\n"), true);
            }
            if (line.startsWith("    public ") && line.contains("(") && !line.contains(" AdBreaks(")) {
                String told = line.replace("    public ", "").replace(";", "").replaceAll("(int) \\w+([,)])", "$1$2").replace(", ", ",");
                Check.same("face: " + told + " in this test", methods.remove(told), true);
            }
        }
        Check.same("face: not in the document " + methods, methods.size(), 0);
    }

    private static void nested() {
        Class<?>[] classes = AdBreaks.class.getDeclaredClasses();
        Check.same("classes: " + classes.length, classes.length <= 11, true);
        for (Class<?> nested : classes) {
            int modifiers = nested.getModifiers();
            Check.same("class " + nested, Modifier.isStatic(modifiers) && !Modifier.isPublic(modifiers), true);
            int fields = 0;
            for (Field field : nested.getDeclaredFields()) {
                fields += Modifier.isStatic(field.getModifiers()) ? 0 : 1;
            }
            Check.same("fields of " + nested, fields <= 20, true);
            for (Method method : nested.getDeclaredMethods()) {
                Check.same("parameters of " + method, method.getParameterCount() <= 7, true);
                boolean named = Arrays.stream(FACE).anyMatch(told -> told.contains(" " + method.getName() + "("));
                Check.same("name of " + method, named, false);
            }
        }
    }

    private static void source() throws IOException {
        String source = Files.readString(Path.of("src/main/java/AdBreaks.java"));
        for (String forbidden : FORBIDDEN) {
            Check.same("source: " + forbidden, source.contains(forbidden), false);
        }
        Check.same("source: one import", source.split("import ", -1).length - 1, 1);
    }

    /** All calls of a run have one room, so that no call but one that throws may make anything. */
    private static void room() {
        // Twice, because the first round loads classes.
        bytesOfRound();
        bytesOfRound();
        long bytes = bytesOfRound();
        Check.same("room: " + bytes + " bytes", bytes < 4096, true);
    }

    private static long bytesOfRound() {
        AdBreaks radio = new AdBreaks();
        String text = "radio;price audience*seconds/10+(used+spots)*hour;" + "sponsor 0 9;sponsor 1 9;".repeat(4)
            + "ban 0 0;break 0 0 300 10;break 0 1 300 20;break 1 0 300 30;";
        long before = allocated();
        int length = text.length() / 20 * 20;
        for (int at = 0; at < length + 20; at += 20) {
            radio.append(Check.word(text, at), Check.word(text, at + 4), Check.word(text, at + 8),
                Check.word(text, at + 12), Check.word(text, at + 16));
        }
        radio.load(text.length());
        for (int round = 0; round < 40; round++) {
            radio.campaign(round % 8, 10, 20);
            radio.bookAnyhow(round % 8, 10, round % 3);
            radio.cancel(round % 3);
            radio.makeGood();
            radio.arrangements(255);
            radio.arranged(255, 7);
            radio.cheapest(round % 8, 20);
            radio.widest(round % 8, 20);
            radio.checksum();
            radio.undo();
            radio.undo();
        }
        return allocated() - before;
    }

    private static long allocated() {
        com.sun.management.ThreadMXBean threads = (com.sun.management.ThreadMXBean) ManagementFactory.getThreadMXBean();
        return threads.getThreadAllocatedBytes(Thread.currentThread().getId());
    }
}

import java.io.IOException;
import java.io.UncheckedIOException;
import java.nio.charset.StandardCharsets;
import java.nio.file.Files;
import java.nio.file.Path;
import java.util.ArrayList;
import java.util.HashMap;
import java.util.List;
import java.util.Map;
import java.util.TreeMap;
import java.util.concurrent.Callable;
import java.util.function.Supplier;
import java.util.regex.Matcher;
import java.util.regex.Pattern;

/**
 * Holds a test against each sentence of the document: a test tells the words that it is for, these must
 * stand in the document, and no words of a part that is begun may be left without a test.
 */
final class Sentences {
    static final Class<?> IAE = IllegalArgumentException.class;
    static final Class<?> ISE = IllegalStateException.class;
    static final Class<?> IOOBE = IndexOutOfBoundsException.class;
    static final int FAR = 1_000_000;

    /** A call of a school. */
    interface Call {
        Object on(Schoolhours x) throws Exception;
    }

    /** A call of a school with a number. */
    interface CallWith {
        Object on(Schoolhours x, int number) throws Exception;
    }

    static final List<Supplier<Schoolhours>> ALL_SCHOOLS =
        List.of(Schoolhours::new, Schools::some, Schools::full, Schools::stuck);
    static final List<Supplier<Schoolhours>> WITH_TABLE = List.of(Schools::some, Schools::full);
    static final List<Supplier<Schoolhours>> WITHOUT_TABLE = List.of(Schoolhours::new, Schools::stuck);

    private static final Map<String, String> PARTS = parts(document());
    private static final Map<Supplier<Schoolhours>, String[]> UNTOUCHED = new HashMap<>();
    private static String part = "";
    private static String words = "";
    private static String left = "";
    private static int tests;
    private static int asked;
    private static int wrong;

    private Sentences() {
    }

    private static String document() {
        try {
            return Files.readString(Path.of("../shared/DOC.md"), StandardCharsets.UTF_8);
        } catch (IOException e) {
            throw new UncheckedIOException(e);
        }
    }

    /** The numbered parts of the terms, the constants, and the promises without their heads. */
    private static Map<String, String> parts(String document) {
        Map<String, String> parts = new TreeMap<>();
        String terms = document.substring(document.indexOf("## Terms"), document.indexOf("The constants:"));
        Matcher part = Pattern.compile("(?ms)^(\\d+)\\. [^\n]*\n(.*?)(?=^\\d+\\. |\\z)").matcher(terms);
        while (part.find()) {
            parts.put("Term " + part.group(1), plain(part.group(2)));
        }
        Matcher constants = Pattern.compile("The constants: [^\n]*").matcher(document);
        if (constants.find()) {
            parts.put("Constants", plain(constants.group()));
        }
        Matcher promise = Pattern.compile("(?ms)^## (Promise \\d+): [^\n]*\n+`[^\n`]*`: (.*?)(?=^## )").matcher(document);
        while (promise.find()) {
            parts.put(promise.group(1), plain(promise.group(2)));
        }
        if (parts.size() != 11 + 1 + 57) {
            throw new IllegalStateException("the document has " + parts.size() + " parts");
        }
        return parts;
    }

    private static String plain(String text) {
        return text.replaceAll("\\s+", " ").trim();
    }

    /** Begins a part; nothing of the part ahead of it may be left. */
    static void part(String name) {
        endOfPart();
        part = name;
        left = PARTS.get(name);
    }

    private static void endOfPart() {
        if (!left.isBlank()) {
            fail("no test for the words: " + left.trim());
        }
    }

    static void sentence(String sentence, Runnable test) {
        words = plain(sentence);
        int at = left.indexOf(words);
        if (at < 0) {
            fail("these words are not left in the document");
        } else {
            left = left.substring(0, at) + " " + left.substring(at + words.length());
        }
        tests++;
        test.run();
    }

    static void end() {
        words = "";
        endOfPart();
        System.out.println(tests + " sentences, " + asked + " answers, " + wrong + " wrong");
        System.exit(wrong == 0 ? 0 : 1);
    }

    private static void fail(String what) {
        wrong++;
        if (wrong <= 60) {
            System.out.println(part + ", \"" + words + "\", line " + line() + ": " + what);
        }
    }

    private static int line() {
        for (StackTraceElement e : new Throwable().getStackTrace()) {
            if (e.getClassName().endsWith("Sentences") && !e.getClassName().equals("Sentences")) {
                return e.getLineNumber();
            }
        }
        return 0;
    }

    static void is(Object due, Callable<Object> call) {
        asked++;
        Object got = Schools.answer(call);
        if (!due.equals(got)) {
            fail("answered " + got + ", due is " + due);
        }
    }

    /** The call throws, and behind it a school is as one that was never asked. */
    static void refused(Class<?> due, Supplier<Schoolhours> made, Call call) {
        leaves(due, made, call);
    }

    /** The call is answered (by what is thrown, too), and behind it a school is as one that was never asked. */
    static void leaves(Object due, Supplier<Schoolhours> made, Call call) {
        String[] untouched = UNTOUCHED.computeIfAbsent(made, Sentences::looks);
        for (int look = 0; look < Seen.LOOKS; look++) {
            Schoolhours x = made.get();
            is(due, () -> call.on(x));
            if (!untouched[look].equals(Seen.look(look, x))) {
                fail("the call changed what look " + look + " sees");
            }
        }
    }

    private static String[] looks(Supplier<Schoolhours> made) {
        String[] looks = new String[Seen.LOOKS];
        for (int look = 0; look < Seen.LOOKS; look++) {
            looks[look] = Seen.look(look, made.get());
        }
        return looks;
    }

    static void refused(Class<?> due, List<Supplier<Schoolhours>> schools, Call call) {
        for (Supplier<Schoolhours> made : schools) {
            refused(due, made, call);
        }
    }

    /** All numbers beyond a range that tests try: next to it, far from it, at the ends of an int, and wrapped ones. */
    static List<Integer> beyond(int least, int greatest) {
        List<Integer> numbers = new ArrayList<>();
        long[] some = {least - 1L, least - 2L, least - 10L, least - 256L, least - (long) FAR, greatest + 1L, greatest + 2L,
            greatest + 10L, greatest + 256L, greatest + 65536L, greatest + (long) FAR, Integer.MIN_VALUE,
            Integer.MIN_VALUE + 1L, Integer.MIN_VALUE + (long) Math.max(least, 0), Integer.MAX_VALUE,
            Integer.MAX_VALUE - 1L};
        for (long number : some) {
            if ((number < least || number > greatest) && number == (int) number) {
                numbers.add((int) number);
            }
        }
        return numbers;
    }

    /** The numbers beyond a range are refused by all schools. */
    static void beyond(Class<?> due, int least, int greatest, CallWith call) {
        for (int number : beyond(least, greatest)) {
            refused(due, ALL_SCHOOLS, x -> call.on(x, number));
        }
    }

    /** The numbers of lessons that are not there are refused by all schools. */
    static void noLesson(CallWith call) {
        for (Supplier<Schoolhours> made : ALL_SCHOOLS) {
            for (int number : beyond(0, made.get().lessons() - 1)) {
                refused(IOOBE, made, x -> call.on(x, number));
            }
        }
    }

    /** The numbers of wishes that are not there are refused by all schools. */
    static void noWish(CallWith call) {
        for (Supplier<Schoolhours> made : ALL_SCHOOLS) {
            for (int number : beyond(0, made.get().wishes() - 1)) {
                refused(IOOBE, made, x -> call.on(x, number));
            }
        }
    }

    /** Schools without a table refuse a question about it. */
    static void noTable(Call call) {
        refused(ISE, WITHOUT_TABLE, call);
    }

    /** The sentence on a question about the present table: schools refuse it until they have one. */
    static void asksTable(List<Supplier<Schoolhours>> without, Call call) {
        sentence("Throws `IllegalStateException` if there is no present table", () -> {
            refused(ISE, without, call);
            Schoolhours x = Schools.some();
            x.setRooms(0, 3);
            is(ISE, () -> call.on(x));
            x.undo();
            is(true, () -> call.on(x) != null);
        });
    }
}

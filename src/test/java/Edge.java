import java.io.IOException;
import java.nio.file.Files;
import java.nio.file.Path;
import java.util.ArrayList;
import java.util.LinkedHashMap;
import java.util.List;
import java.util.Map;

/**
 * A test of one sentence: it names the promise, and quotes the sentence of ../shared/DOC.md for which it stands.
 * Behind all of them the document is asked whether it says so, and whether a sentence of it is without a test.
 */
final class Edge {
    static final Class<IndexOutOfBoundsException> INDEX = IndexOutOfBoundsException.class;
    static final Class<IllegalArgumentException> ARGUMENT = IllegalArgumentException.class;
    static final Class<IllegalStateException> STATE = IllegalStateException.class;
    static final int NONE = HydrantRounds.NONE;

    interface Body {
        void run();
    }

    interface Call {
        Object on(HydrantRounds x, int value);
    }

    private static final Map<String, List<String>> QUOTES = new LinkedHashMap<>();

    private Edge() {
    }

    /** A sentence of the section of a promise. */
    static void promise(int promise, String sentence, Body body) {
        of("Promise " + promise, "", sentence, body);
    }

    /** A sentence of another section, shown by the calls of a promise. */
    static void term(String section, int promise, String sentence, Body body) {
        of(section, " (promise " + promise + ")", sentence, body);
    }

    private static void of(String section, String shownBy, String sentence, Body body) {
        QUOTES.computeIfAbsent(section, none -> new ArrayList<>()).add(sentence);
        Check.about(section + shownBy + ", \"" + sentence + "\": ");
        int before = Check.made();
        try {
            body.run();
        } catch (RuntimeException e) {
            Check.isTrue("it threw " + e, false);
        }
        Check.isTrue("it checks nothing", Check.made() > before);
        Check.about("");
    }

    /** The last values that are allowed: none of them throws. */
    static void allows(int promise, String sentence, Call call, int... values) {
        promise(promise, sentence, () -> {
            for (int value : values) {
                HydrantRounds x = Sample.busy();
                Check.isTrue(value + " is refused", Check.thrownBy(() -> call.on(x, value)) == null);
            }
        });
    }

    /** The first values that are not allowed: each throws, and changes nothing. */
    static void refuses(int promise, String sentence, Class<? extends RuntimeException> due, Call call, int... values) {
        promise(promise, sentence, () -> {
            for (int value : values) {
                HydrantRounds x = Sample.busy();
                Check.isTrue("not refused ahead of any look: " + value, due == Check.thrownBy(() -> call.on(x, value)));
                Check.refuses(x, "with " + value, due, () -> call.on(x, value));
            }
        });
    }

    /** What lies beside a range, and far from it. */
    static int[] beside(int least, int most) {
        return new int[] {least - 1, most + 1, Integer.MIN_VALUE, Integer.MAX_VALUE};
    }

    /** Each of these values is one call that saves a state, and is undone as a whole. */
    static void undoable(int promise, String sentence, Call call, int... values) {
        promise(promise, sentence, () -> {
            for (int value : values) {
                HydrantRounds x = Sample.busy();
                long before = x.digest();
                call.on(x, value);
                Check.same("saved states behind the call with " + value, 6, x.count(8));
                Check.same("saved states behind undo", 5, x.undo());
                Check.same("digest behind undo of the call with " + value, before, x.digest());
            }
        });
    }

    /** Every quote stands in its section, and every sentence of the promises and terms is quoted. */
    static void holdAgainst(Path document) throws IOException {
        if (!Files.isReadable(document)) {
            System.out.println("the quotes are not held against " + document + ": it is not there");
            return;
        }
        Map<String, String> sections = sections(Files.readString(document));
        for (Map.Entry<String, List<String>> quoted : QUOTES.entrySet()) {
            String text = sections.getOrDefault(quoted.getKey(), "");
            for (String quote : quoted.getValue()) {
                Check.isTrue(quoted.getKey() + " does not say: " + quote, text.contains(quote));
            }
        }
        for (Map.Entry<String, String> section : sections.entrySet()) {
            if (isTested(section.getKey())) {
                findUntested(section.getKey(), section.getValue());
            }
        }
    }

    private static boolean isTested(String section) {
        return section.startsWith("Promise ")
            || List.of("Terms", "An hour", "Settings", "Input text", "Undo", "Exceptions").contains(section);
    }

    private static Map<String, String> sections(String document) {
        Map<String, String> sections = new LinkedHashMap<>();
        String name = "";
        for (String line : document.split("\n")) {
            if (line.startsWith("#")) {
                name = line.replaceAll("^#+ |: .*", "");
            } else {
                sections.merge(name, line + "\n", String::concat);
            }
        }
        return sections;
    }

    private static void findUntested(String section, String text) {
        int from = 0;
        for (String line : text.split("\n")) {
            int start = text.indexOf(line, from);
            from = start + line.length();
            int signature = line.matches("`[^`]*`: .*") ? line.indexOf("`: ") + 3 : 0;
            for (String sentence : line.substring(signature).split("(?<=[.;]) ")) {
                int at = text.indexOf(sentence, start);
                boolean tells = sentence.matches(".*[a-z].*") && !tellsOfOtherPages(line);
                Check.isTrue(section + " has a sentence without a test: " + sentence,
                    !tells || isQuoted(section, text, at, at + sentence.length()));
            }
        }
    }

    /** Headings without a mark, and the lines that name groups of calls; those that promise something have tests. */
    private static boolean tellsOfOtherPages(String line) {
        return List.of("Zones, streets", "Crews, flushing", "In an hour this happens:").contains(line)
            || line.startsWith("Ahead of the calls") && !line.contains("nothing is changed");
    }

    private static boolean isQuoted(String section, String text, int start, int end) {
        for (String quote : QUOTES.getOrDefault(section, List.of())) {
            for (int at = text.indexOf(quote); at >= 0; at = text.indexOf(quote, at + 1)) {
                if (at < end && at + quote.length() > start) {
                    return true;
                }
            }
        }
        return false;
    }
}

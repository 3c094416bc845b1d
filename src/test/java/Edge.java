import java.io.IOException;
import java.io.UncheckedIOException;
import java.nio.file.Files;
import java.nio.file.Path;
import java.util.Map;
import java.util.TreeMap;
import java.util.regex.Matcher;
import java.util.regex.Pattern;

/**
 * A sentence of the document, in its own words, and what is asked of it. Words that aren't in the document fail, and so do
 * words of the document that no edge bears: thus a sentence can neither be made up nor be forgotten.
 */
final class Edge {
    /** The document's sections: promises by their numbers, and these. */
    static final int WHAT_IT_IS = -1;
    static final int TERMS = 0;

    private static final Path DOCUMENT = Path.of("../shared/DOC.md");
    // Without the document (in a checkout that stands alone) what the sentences ask is still asked, but not their words.
    private static final boolean IS_THERE = Files.isReadable(DOCUMENT);
    private static final Map<Integer, Section> SECTIONS = sections();

    private static final class Section {
        final String text;
        final boolean[] asked;

        Section(String text) {
            this.text = text;
            asked = new boolean[text.length()];
        }

        boolean ask(String words) {
            int at = text.indexOf(words);
            boolean there = at >= 0;
            while (at >= 0) {
                java.util.Arrays.fill(asked, at, at + words.length(), true);
                at = text.indexOf(words, at + 1);
            }
            return there;
        }

        String left() {
            StringBuilder left = new StringBuilder();
            for (int i = 0; i < text.length(); i++) {
                left.append(asked[i] ? "\n" : text.substring(i, i + 1));
            }
            return left.toString().replaceAll("\n+", "\n").trim();
        }
    }

    private final String name;

    private Edge(String name) {
        this.name = name;
    }

    static Edge of(int section, String words) {
        String name = section + ", \"" + words + "\"";
        if (IS_THERE) {
            new Run(name).same("in the document", SECTIONS.get(section).ask(words) ? 1 : 0, 1);
        }
        return new Edge(name);
    }

    /** Words that name no case that could be asked by itself. */
    static void passes(int section, String... words) {
        for (String some : words) {
            of(section, some);
        }
    }

    Run run() {
        return new Run(name);
    }

    Run laid() {
        return Fixture.laid(name);
    }

    /** Each call, on the fixture, answers the finding and changes nothing but status(). */
    Edge refused(int finding, String... calls) {
        for (String call : calls) {
            Fixture.refuses(name, call, finding);
        }
        return this;
    }

    Edge beyond(String... calls) {
        return refused(Run.BEYOND, calls);
    }

    /** The argument that stands as # may be from least to most, and is beyond on either side, however far. */
    Edge bounds(String call, int least, int most) {
        for (int v : new int[] {least, most}) {
            String there = with(call, v);
            Run r = Fixture.laid(name);
            r.same("BEYOND is the answer of " + there, r.ask(there) == Run.BEYOND ? 1 : 0, 0);
        }
        return beyond(with(call, least - 1), with(call, most + 1), with(call, Integer.MIN_VALUE), with(call, Integer.MAX_VALUE));
    }

    /** As bounds, of the number of a guest. */
    Edge guests(String call) {
        return bounds(call, 0, Fixture.GUESTS - 1);
    }

    /** As bounds, of the number of a place. */
    Edge places(String call) {
        return bounds(call, 0, 9);
    }

    private static String with(String call, int v) {
        return call.replace("#", String.valueOf(v));
    }

    /** Tells what is left of the sections, none of which may be, and ends the test. */
    static void end(int first, int last) {
        for (int section = first; section <= last && IS_THERE; section++) {
            String left = SECTIONS.get(section).left();
            new Run("the document").same("left of section " + section + ": " + left, left.isEmpty() ? 1 : 0, 1);
        }
        Run.end();
    }

    private static Map<Integer, Section> sections() {
        Map<Integer, Section> all = new TreeMap<>();
        for (String part : document().split("(?m)^## ")) {
            int end = part.indexOf('\n');
            Integer number = end < 0 ? null : numberOf(part.substring(0, end).trim());
            if (number != null) {
                // A promise begins with the call's own line of the face, which FaceTest asks.
                String text = part.substring(end).replaceAll("\\s+", " ").replaceFirst("^ `[^`]*`: ", "");
                all.put(number, new Section(text));
            }
        }
        return all;
    }

    private static Integer numberOf(String heading) {
        Matcher promise = Pattern.compile("Promise (\\d+): .*").matcher(heading);
        if (promise.matches()) {
            return Integer.valueOf(promise.group(1));
        }
        return heading.equals("Terms") ? Integer.valueOf(TERMS) : heading.equals("What it is") ? Integer.valueOf(WHAT_IT_IS) : null;
    }

    private static String document() {
        if (!IS_THERE) {
            System.out.println(DOCUMENT + " isn't there: the sentences are not compared with it");
            return "";
        }
        try {
            return Files.readString(DOCUMENT);
        } catch (IOException e) {
            throw new UncheckedIOException(e);
        }
    }
}

import java.io.IOException;
import java.nio.file.Files;
import java.nio.file.Path;
import java.util.ArrayList;
import java.util.Arrays;
import java.util.LinkedHashMap;
import java.util.List;
import java.util.Map;
import java.util.function.Supplier;

/**
 * A sentence of the document, quoted word by word, with the cases that test it. end() asks that each
 * quote stands in the document, that each has a case, and that no word of Terms or of a promise is left
 * out: so a sentence without a test, or one that the document no longer has, is told.
 */
final class Sentence {
    interface Call {
        long on(LastPruned x);
    }

    interface NumberCall {
        long on(LastPruned x, int v);
    }

    private static final int PROMISES = 46;
    private static final Map<String, String> SECTIONS = sections();
    private static final Map<String, boolean[]> QUOTED = new LinkedHashMap<>();
    private static final List<Sentence> ALL = new ArrayList<>();

    private final String name;
    private int cases = 0;

    private Sentence(String section, String words) {
        name = section + " \"" + words + "\": ";
        ALL.add(this);
        Check.due(name + "stands in the document", quote(section, words) ? 1 : 0, 1);
    }

    static Sentence of(int promise, String words) {
        return new Sentence("Promise " + promise, words);
    }

    static Sentence ofTerms(String words) {
        return new Sentence("Terms", words);
    }

    static Sentence ofWhatItIs(String words) {
        return new Sentence("What it is", words);
    }

    Sentence due(String aCase, long got, long want) {
        cases++;
        Check.due(name + aCase, got, want);
        return this;
    }

    /** The answer is a refusal, and all that can be seen is as without the call. */
    Sentence refuses(String aCase, long want, Supplier<LastPruned> made, Call call) {
        LastPruned x = made.get();
        due(aCase, call.on(x), want);
        return same(aCase, x, made.get());
    }

    Sentence refuses(String aCase, long want, Call call) {
        return refuses(aCase, want, Whole::few, call);
    }

    /** The call is no refusal, and changes nothing. */
    Sentence leavesAll(String aCase, Call call) {
        LastPruned x = Whole.few();
        due(aCase + " is no refusal", call.on(x) >= 0 ? 1 : 0, 1);
        return same(aCase, x, Whole.few());
    }

    Sentence same(String aCase, LastPruned x, LastPruned untouched) {
        String got = Whole.all(x);
        String want = Whole.all(untouched);
        due(aCase + ": changes nothing" + (got.equals(want) ? "" : ": " + got + " / " + want),
            got.equals(want) ? 1 : 0, 1);
        return this;
    }

    /** A number is taken from least to most, and BAD just outside and far outside. */
    Sentence keepsTo(String what, int least, int most, Supplier<LastPruned> made, NumberCall call) {
        for (int v : new int[] {least, most}) {
            due(what + " " + v + " is taken", call.on(made.get(), v) == LastPruned.BAD ? 0 : 1, 1);
        }
        for (int v : new int[] {least - 1, most + 1, Integer.MIN_VALUE, Integer.MAX_VALUE}) {
            refuses(what + " " + v, LastPruned.BAD, made, x -> call.on(x, v));
        }
        return this;
    }

    Sentence keepsTo(String what, int least, int most, NumberCall call) {
        return keepsTo(what, least, most, Whole::few, call);
    }

    /** To be called behind all sentences. */
    static void end() {
        for (Sentence s : ALL) {
            Check.due(s.name + "has a case", s.cases > 0 ? 1 : 0, 1);
        }
        for (int promise = 1; promise <= PROMISES; promise++) {
            wholly("Promise " + promise);
        }
        wholly("Terms");
        System.out.println(ALL.size() + " sentences");
    }

    private static void wholly(String section) {
        String text = SECTIONS.getOrDefault(section, "?");
        boolean[] quoted = QUOTED.getOrDefault(section, new boolean[text.length()]);
        StringBuilder left = new StringBuilder();
        for (int i = 0; i < text.length(); i++) {
            boolean isLeft = !quoted[i] && Character.isLetterOrDigit(text.charAt(i));
            left.append(isLeft ? text.charAt(i) : quoted[i] ? "" : " ");
        }
        Check.due(section + ": words without a test: " + left.toString().trim(), left.toString().isBlank() ? 1 : 0, 1);
    }

    private static boolean quote(String section, String words) {
        String text = SECTIONS.getOrDefault(section, "");
        boolean[] quoted = QUOTED.computeIfAbsent(section, key -> new boolean[text.length()]);
        int first = text.indexOf(words);
        for (int at = first; at >= 0; at = text.indexOf(words, at + 1)) {
            Arrays.fill(quoted, at, at + words.length(), true);
        }
        return first >= 0;
    }

    /** The document by its headings, without signatures, fences and line ends. */
    private static Map<String, String> sections() {
        Map<String, String> sections = new LinkedHashMap<>();
        for (String part : document().split("(?m)^## ")) {
            String heading = part.lines().findFirst().orElse("");
            String body = part.substring(heading.length());
            String plain = body.replaceAll("```(text)?", " ").replaceAll("`[^`]*`:", " ").replace("========", " ");
            sections.put(heading.replaceAll(":.*", ""), plain.replaceAll("\\s+", " "));
        }
        return sections;
    }

    private static String document() {
        try {
            return Files.readString(Path.of("../shared/DOC.md"));
        } catch (IOException e) {
            System.out.println("the document can't be read: " + e);
            return "";
        }
    }
}

import java.io.IOException;
import java.io.UncheckedIOException;
import java.nio.file.Files;
import java.nio.file.Path;
import java.util.HashMap;
import java.util.LinkedHashMap;
import java.util.Map;

/** Runs tests beside the sentences of the document that they are for, and tells which sentences have none. */
final class Sentences {
    private static final Path DOCUMENT = Path.of("..", "shared", "DOC.md");
    private static final Map<String, String> TEXTS = texts();
    /** For each section, which of its characters stand in a sentence that a test was run for. */
    private static final Map<String, boolean[]> TOLD = new HashMap<>();
    private static String section = "";

    private Sentences() {
    }

    /** The tests that follow are for sentences of this section. */
    static void section(String title) {
        Check.due("the document's section " + title, TEXTS.containsKey(title), true);
        section = title;
    }

    /** Runs a test for a sentence, or a part of one, of the section in hand. */
    static void holds(String sentence, Runnable test) {
        String text = text(section);
        int from = text.indexOf(sentence);
        Check.beside(section + ": '" + sentence + "': ");
        Check.due("the sentence is in the document", from >= 0, true);
        for (int i = from; from >= 0 && i < from + sentence.length(); i++) {
            TOLD.computeIfAbsent(section, s -> new boolean[text.length()])[i] = true;
        }
        int before = Check.seen();
        Check.due("its test", Check.answer(() -> { test.run(); return "done"; }), "done");
        Check.due("its test looks at answers", Check.seen() > before + 1, true);
        Check.beside("");
    }

    /** The text of a section, on one line. */
    static String text(String title) {
        return TEXTS.getOrDefault(title, "");
    }

    /** Fails for each section but the face and what is not promised of which a part was not told. */
    static void allTold() {
        for (Map.Entry<String, String> entry : TEXTS.entrySet()) {
            String title = entry.getKey();
            if (!title.startsWith("# ") && !title.equals("The public face") && !title.equals("Not promised")) {
                Check.due(title + ", not told", untold(title, entry.getValue()), "");
            }
        }
    }

    private static String untold(String title, String text) {
        boolean[] told = TOLD.getOrDefault(title, new boolean[text.length()]);
        StringBuilder rest = new StringBuilder();
        for (int i = 0; i < text.length(); i++) {
            if (!told[i]) {
                rest.append(text.charAt(i));
            }
        }
        return rest.toString().trim();
    }

    /** The sections' texts by their titles, on one line each, without the face that stands before a promise's words. */
    private static Map<String, String> texts() {
        Map<String, String> all = new LinkedHashMap<>();
        for (String part : document().split("(?m)^## ")) {
            String[] titleAndText = part.split("\n", 2);
            if (titleAndText.length == 2) {
                String text = titleAndText[1].replaceAll("\\s+", " ").trim();
                all.put(titleAndText[0].trim(), text.replaceFirst("^`[^`]*`: ", ""));
            }
        }
        return all;
    }

    private static String document() {
        try {
            return Files.readString(DOCUMENT);
        } catch (IOException e) {
            throw new UncheckedIOException(e);
        }
    }
}

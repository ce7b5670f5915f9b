import java.io.IOException;
import java.nio.file.Files;
import java.nio.file.Path;
import java.util.BitSet;
import java.util.Map;
import java.util.TreeMap;

/**
 * The sentences of ../shared/DOC.md. A test quotes each one ahead of the answers that it demands for it, and says at
 * its end which sections it has to have quoted whole: so a sentence without a test shows.
 */
final class Document {
    private static final Path PLACE = Path.of("../shared/DOC.md");
    /** Where the document is not at hand, the answers are looked at all the same, but not the quotes. */
    private static final boolean THERE = Files.isReadable(PLACE);

    /** The text of each section by its name: "Promise 3", or "Balls 2" for the second paragraph of the term "Balls". */
    private static final Map<String, String> TEXTS = new TreeMap<>();
    private static final Map<String, BitSet> QUOTED = new TreeMap<>();
    private static String current = "";
    private static int askedBefore = 0;

    private Document() {
    }

    /** Says that the answers from now on, at least one, are due by these words of a promise, or of a term. */
    static void says(int promise, String words) {
        says("promise " + promise, "Promise " + promise, words);
    }

    /** Says the same of words that are about the public face, or about all promises. */
    static void saysOfAll(String words) {
        says("all promises", "", words);
    }

    private static void says(String told, String first, String words) {
        if (THERE && TEXTS.isEmpty()) {
            read();
        }
        endSentence();
        boolean found = quote(first, words);
        for (String section : TEXTS.keySet()) {
            if (!found && !section.startsWith("Promise ") && quote(section, words)) {
                found = true;
            }
        }
        if (THERE) {
            Check.due("the document says, for " + told + " or as a term, " + words, found, true);
        }
        current = told + ", \"" + words + "\": ";
        askedBefore = Check.countAsked();
        Check.setAbout(current);
    }

    private static void endSentence() {
        Check.setAbout("");
        if (!current.isEmpty()) {
            Check.due(current + "it has a test", Check.countAsked() > askedBefore, true);
        }
        current = "";
    }

    /** Demands that the promises from one to another were quoted whole. */
    static void demandPromises(int first, int last) {
        endSentence();
        for (int promise = first; promise <= last; promise++) {
            demandQuoted("Promise " + promise);
        }
    }

    /** Demands that the paragraphs of a term from one to another were quoted whole. */
    static void demandTerm(String term, int first, int last) {
        endSentence();
        for (int paragraph = first; paragraph <= last; paragraph++) {
            demandQuoted(term + " " + paragraph);
        }
    }

    private static void demandQuoted(String section) {
        if (!THERE) {
            return;
        }
        String text = TEXTS.get(section);
        Check.due("the document has " + section, text != null, true);
        if (text == null) {
            return;
        }
        StringBuilder rest = new StringBuilder();
        for (int i = 0; i < text.length(); i++) {
            rest.append(QUOTED.get(section).get(i) ? ' ' : text.charAt(i));
        }
        Check.due("what no test quotes of " + section, rest.toString().replaceAll("\\s+", " ").trim(), "");
    }

    private static boolean quote(String section, String words) {
        String text = TEXTS.get(section);
        int at = text == null ? -1 : text.indexOf(words);
        boolean found = at >= 0;
        while (at >= 0) {
            QUOTED.get(section).set(at, at + words.length());
            at = text.indexOf(words, at + words.length());
        }
        return found;
    }

    private static void read() {
        try {
            String heading = "";
            int paragraph = 0;
            for (String block : Files.readString(PLACE).split("\n\\s*\n")) {
                if (block.startsWith("#")) {
                    heading = block.replaceAll("^#+ ", "").replaceAll(":.*", "");
                    paragraph = 0;
                } else {
                    paragraph++;
                    boolean promised = heading.startsWith("Promise ");
                    keep(promised ? heading : heading + " " + paragraph, promised, block);
                }
            }
        } catch (IOException e) {
            Check.due("reading " + PLACE, e.toString(), "no exception");
        }
    }

    /** Keeps a block without the signs of lists; of a promise also without the head of its method. */
    private static void keep(String section, boolean promised, String block) {
        String text = block.replaceAll("(?m)^(- |\\d\\. )", "");
        if (promised) {
            text = text.replaceAll("^`[^`]*\\([^`]*`: ", "");
        }
        String before = TEXTS.containsKey(section) ? TEXTS.get(section) + " " : "";
        TEXTS.put(section, before + text.replaceAll("\\s+", " ").trim());
        QUOTED.put(section, new BitSet());
    }
}

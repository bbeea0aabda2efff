import java.io.IOException;
import java.nio.file.Files;
import java.nio.file.Path;
import java.util.BitSet;
import java.util.LinkedHashMap;
import java.util.Map;

/** The document's sentences by the sections they stand in, and which of them a test has named. */
final class Doc {
    private static final Path PLACE = Path.of("../shared/DOC.md");
    private static final Map<String, String> SECTIONS = read();
    private static final Map<String, BitSet> NAMED = new LinkedHashMap<>();

    private Doc() {
    }

    /** Marks a sentence as tested; false: the section has no such words. Where no document is, none is looked up. */
    static boolean name(String section, String sentence) {
        if (SECTIONS.isEmpty()) return true;
        String text = SECTIONS.get(section);
        if (text == null || !text.contains(sentence)) return false;
        BitSet named = NAMED.computeIfAbsent(section, s -> new BitSet());
        for (int at = text.indexOf(sentence); at >= 0; at = text.indexOf(sentence, at + 1)) named.set(at, at + sentence.length());
        return true;
    }

    /** Words of the document, by section, that no test has named. */
    static Map<String, String> unnamed() {
        Map<String, String> left = new LinkedHashMap<>();
        for (String section : SECTIONS.keySet()) {
            String words = unnamedIn(section);
            if (words.matches("(?s).*[A-Za-z0-9].*")) left.put(section, words);
        }
        return left;
    }

    private static String unnamedIn(String section) {
        String text = SECTIONS.get(section);
        BitSet named = NAMED.getOrDefault(section, new BitSet());
        StringBuilder words = new StringBuilder();
        for (int i = 0; i < text.length(); i++) words.append(named.get(i) ? '_' : text.charAt(i));
        return words.toString().replaceAll("_+", "_");
    }

    private static Map<String, String> read() {
        if (!Files.exists(PLACE)) {
            System.out.println("no document at " + PLACE + ": its sentences are not looked up");
            return Map.of();
        }
        try {
            return sectionsOf(Files.readString(PLACE));
        } catch (IOException e) {
            throw new IllegalStateException("cannot read " + PLACE, e);
        }
    }

    private static Map<String, String> sectionsOf(String document) {
        Map<String, String> sections = new LinkedHashMap<>();
        sections.put("What it is", between(document, "## What it is", "## The public face"));
        for (int part = 1; part <= 5; part++) {
            sections.put("Terms " + part, between(document, "======== " + part, part < 5 ? "======== " + (part + 1) : "Refusals,"));
        }
        sections.put("Refusals", "Refusals, " + between(document, "Refusals,", "Ahead of the calls"));
        sections.put("Interface", "Ahead of the calls " + between(document, "Ahead of the calls", "## Promise 1:"));
        for (int promise = 1; promise <= 41; promise++) {
            String text = between(document, "## Promise " + promise + ":", promise < 41 ? "## Promise " + (promise + 1) + ":" : "## Not promised");
            // the heading's name and the signature are told by the face
            sections.put("Promise " + promise, text.substring(text.indexOf("`: ") + 3));
        }
        return sections;
    }

    private static String between(String document, String from, String to) {
        int start = document.indexOf(from);
        int end = document.indexOf(to, start + from.length());
        if (start < 0 || end < 0) throw new IllegalStateException("the document has no part from " + from + " to " + to);
        return document.substring(start + from.length(), end).replace("```text", "").replace("```", "").replaceAll("\\s+", " ").trim();
    }
}

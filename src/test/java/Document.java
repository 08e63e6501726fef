import java.io.IOException;
import java.nio.file.Files;
import java.nio.file.Path;
import java.util.BitSet;
import java.util.Map;
import java.util.TreeMap;

/** The document's words: which of them the tests have named, and which are still without a test. */
final class Document {
    private static final Path FILE = Path.of("../shared/DOC.md");
    /** The sections 'What it is' and 'Terms' are kept as if they were promises, too. */
    private static final int WHAT_IT_IS = -1;
    private static final int TERMS = 0;

    private static final class Section {
        private final String words;
        private final BitSet named = new BitSet();

        Section(String words) {
            this.words = words;
        }

        boolean name(String quote) {
            int found = words.indexOf(quote);
            for (int at = found; at >= 0; at = words.indexOf(quote, at + 1)) {
                named.set(at, at + quote.length());
            }
            return found >= 0;
        }

        /** What no test has named, as far as it has letters or digits. */
        String unnamed() {
            StringBuilder left = new StringBuilder();
            for (int at = named.nextClearBit(0); at < words.length(); at = named.nextClearBit(at + 1)) {
                left.append(Character.isLetterOrDigit(words.charAt(at)) ? words.charAt(at) : ' ');
            }
            return left.toString().trim().replaceAll(" +", " ");
        }
    }

    private final Map<Integer, Section> sections = new TreeMap<>();

    Document() {
        try {
            for (String part : Files.readString(FILE).split("(?m)^## ")) {
                read(part);
            }
        } catch (IOException gone) {
            throw new IllegalStateException("no document at " + FILE.toAbsolutePath(), gone);
        }
    }

    private void read(String part) {
        int line = part.indexOf('\n');
        String heading = part.substring(0, Math.max(0, line));
        String words = part.substring(line + 1).replaceAll("(?m)^```.*$", " ").replaceAll("\\s+", " ").trim();
        if (heading.equals("What it is")) {
            // Its first paragraph sums up what the others promise.
            sections.put(WHAT_IT_IS, new Section(words.replaceFirst("^.*==== 1\\. ", "")));
        } else if (heading.equals("Terms")) {
            sections.put(TERMS, new Section(words));
        } else if (heading.startsWith("Promise ")) {
            int promise = Integer.parseInt(heading.substring(8, heading.indexOf(':')));
            // The method's head is the face's: FaceTest has it.
            sections.put(promise, new Section(words.replaceFirst("^`[^`]*`: ", "")));
        }
    }

    /** Whether the promise's own section, or one for all, has these words; they count as named then. */
    boolean name(int promise, String quote) {
        boolean found = false;
        for (int key : new int[] {promise, TERMS, WHAT_IT_IS}) {
            Section section = sections.get(key);
            found |= section != null && section.name(quote);
        }
        return found;
    }

    void checkThatAllIsNamed() {
        Due.due("sections of the document", sections.size(), 22);
        sections.forEach((key, section) -> Due.due("section " + key + ": all but '" + section.unnamed() + "' is named",
                section.unnamed().isEmpty(), true));
    }
}

import java.io.IOException;
import java.nio.file.Files;
import java.nio.file.Path;
import java.util.BitSet;
import java.util.Map;
import java.util.TreeMap;

/** The document's words: which of them the tests have named, and which are still without a test. */
final class Document {
    private static final Path FILE = Path.of("../shared/DOC.md");
    /** The section 'Terms' is kept as that of promise 0. */
    private static final int TERMS = 0;

    private static final class Section {
        private final String words;
        private final BitSet named = new BitSet();

        Section(String words) {
            this.words = words;
        }

        boolean name(String quote) {
            int found = words.indexOf(quote);
            for (int at = found; at >= 0; at = words.indexOf(quote, at + 1)) {
                named.set(at, at + quote.length());
            }
            return found >= 0;
        }

        /** What no test has named, as far as it has letters or digits. */
        String unnamed() {
            StringBuilder left = new StringBuilder();
            for (int at = named.nextClearBit(0); at < words.length(); at = named.nextClearBit(at + 1)) {
                left.append(Character.isLetterOrDigit(words.charAt(at)) ? words.charAt(at) : ' ');
            }
            return left.toString().trim().replaceAll(" +", " ");
        }
    }

    private final Map<Integer, Section> sections = new TreeMap<>();

    Document() {
        try {
            for (String part : Files.readString(FILE).split("(?m)^## ")) {
                read(part);
            }
        } catch (IOException gone) {
            throw new IllegalStateException("no document at " + FILE.toAbsolutePath(), gone);
        }
    }

    private void read(String part) {
        int line = part.indexOf('\n');
        String heading = part.substring(0, Math.max(0, line));
        String words = part.substring(line + 1).replaceAll("(?m)^```.*$", " ").replaceAll("\\s+", " ").trim();
        if (heading.equals("Terms")) {
            sections.put(TERMS, new Section(words));
        } else if (heading.startsWith("Promise ")) {
            int promise = Integer.parseInt(heading.substring(8, heading.indexOf(':')));
            // The method's head is the face's: FaceTest has it.
            sections.put(promise, new Section(words.replaceFirst("^`[^`]*`: ", "")));
        }
    }

    /** Whether the promise's own section or the Terms have these words; they count as named then. */
    boolean name(int promise, String quote) {
        Section own = sections.get(promise);
        boolean inOwn = own != null && own.name(quote);
        return sections.get(TERMS).name(quote) || inOwn;
    }

    void checkThatAllIsNamed() {
        Due.due("sections of the document", sections.size(), 21);
        sections.forEach((promise, section) ->
                Due.due((promise == TERMS ? "Terms" : "promise " + promise) + ": no test names '"
                        + section.unnamed() + "': so it", section.unnamed().isEmpty(), true));
    }
}

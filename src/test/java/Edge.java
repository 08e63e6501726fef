/** One sentence of the document at a time: what is asked behind sentence() belongs to it, and is told with it. */
final class Edge {
    static final int LOW = Integer.MIN_VALUE;
    static final int HIGH = Integer.MAX_VALUE;

    private static final Document DOCUMENT = new Document();
    private static String label = "";
    private static int askedBefore = 0;

    private Edge() {
    }

    static void sentence(int promise, String quote) {
        endSentence();
        label = "promise " + promise + ", \"" + quote + "\": ";
        Due.due(label + "stands in the document", DOCUMENT.name(promise, quote), true);
        askedBefore = Due.asked();
    }

    private static void endSentence() {
        if (!label.isEmpty()) {
            Due.due(label + "has a test", Due.asked() > askedBefore, true);
        }
    }

    static void due(String call, long got, long want) {
        Due.due(label + call, got, want);
    }

    static void end() {
        endSentence();
        DOCUMENT.checkThatAllIsNamed();
        Due.end();
    }
}

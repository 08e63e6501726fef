/** An office whose calls are counted: the document promises nothing behind an object's 512th. */
final class Office {
    static final int MOST_CALLS = 512;

    private final VarietyCircuit circuit = new VarietyCircuit();
    private int calls = 0;

    int callsLeft() {
        return MOST_CALLS - calls;
    }

    private VarietyCircuit next() {
        if (calls >= MOST_CALLS) {
            throw new IllegalStateException("a test calls one object more than " + MOST_CALLS + " times");
        }
        calls++;
        return circuit;
    }

    int weeks(int n) {
        return next().weeks(n);
    }

    int turn(int minutes, int kind, boolean full, int like, int draw) {
        return next().turn(minutes, kind, full, like, draw);
    }

    int hall(int mile, int seats, int minutes) {
        return next().hall(mile, seats, minutes);
    }

    int feed(int a, int b, int c, int d, int e) {
        return next().feed(a, b, c, d, e);
    }

    /** Feeds a text, with blanks behind it up to the next twenty bytes. */
    void feedText(String text) {
        for (int at = 0; at < text.length(); at += 20) {
            feed(four(text, at), four(text, at + 4), four(text, at + 8), four(text, at + 12),
                    four(text, at + 16));
        }
    }

    int sign(int turn, int from, int n) {
        return next().sign(turn, from, n);
    }

    /** Feeds a text and signs it; the tape is to be empty before. */
    int signText(int turn, int from, String text) {
        feedText(text);
        return sign(turn, from, text.length());
    }

    int fault() {
        return next().fault();
    }

    int force(int turn, int week, int known) {
        return next().force(turn, week, known);
    }

    int why(int turn, int hall, int week) {
        return next().why(turn, hall, week);
    }

    int book(int turn, int hall, int week) {
        return next().book(turn, hall, week);
    }

    int cancel(int turn, int week) {
        return next().cancel(turn, week) ? 1 : 0;
    }

    int where(int turn, int week) {
        return next().where(turn, week);
    }

    int bill(int hall, int week, int what) {
        return next().bill(hall, week, what);
    }

    int order(int hall, int week, int k) {
        return next().order(hall, week, k);
    }

    int waits(int hall, int week) {
        return next().waits(hall, week);
    }

    int fail(int turn, int week) {
        return next().fail(turn, week);
    }

    int fill(int hall, int week, int n) {
        return next().fill(hall, week, n);
    }

    int pay(int turn, int week, int known) {
        return next().pay(turn, week, known);
    }

    int turnOf(int turn, int what) {
        return next().turnOf(turn, what);
    }

    int count(int what) {
        return next().count(what);
    }

    /** Four bytes of a text as one number, the highest first; blanks behind its end. */
    private static int four(String text, int at) {
        int value = 0;
        for (int i = at; i < at + 4; i++) {
            value = value << 8 | (i < text.length() ? text.charAt(i) & 255 : ' ');
        }
        return value;
    }
}

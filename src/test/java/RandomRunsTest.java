import java.util.Random;

/** Runs of calls by fixed seeds, each call compared with the PlainOffice: all promises. */
public final class RandomRunsTest {
    private static final int RUNS = 250;
    /** One step makes so many calls at most: a text's feeds, or a bill's whole order. */
    private static final int LONGEST_STEP = 25;
    private static final int[] WILD = {Integer.MIN_VALUE, -2, -1, 0, 1, 9, 10, 39, 40, 59, 60, 61, Integer.MAX_VALUE};
    private static final String[] OPENINGS = {"pay ", "place ", "never hall ", "apart like ", "apart turn "};

    private final Office x = new Office();
    private final PlainOffice plain = new PlainOffice();
    private final Random random;
    private final String run;
    private final int kinds;
    private final int weekSpan;
    private final boolean roomy;

    private RandomRunsTest(int seed) {
        random = new Random(seed);
        run = "run " + seed + ": ";
        kinds = seed % 4;
        weekSpan = new int[] {3, 10, 25, 60}[seed / 4 % 4];
        roomy = seed % 3 != 0;
    }

    public static void main(String[] args) {
        int runs = args.length > 0 ? Integer.parseInt(args[0]) : RUNS;
        for (int seed = 0; seed < runs; seed++) {
            new RandomRunsTest(seed).go();
        }
        Due.end();
    }

    private void go() {
        int opening = random.nextInt(60);
        for (int i = 0; i < opening; i++) {
            if (random.nextInt(5) == 0) {
                addHall();
            } else {
                addTurn();
            }
        }
        while (x.callsLeft() >= LONGEST_STEP) {
            oneStep();
        }
    }

    private int upTo(int bound) {
        return random.nextInt(bound);
    }

    /** Mostly a number below the bound, now and then one that isn't as told. */
    private int some(int bound) {
        return upTo(40) == 0 ? WILD[upTo(WILD.length)] : upTo(bound);
    }

    private int someTurn() {
        return some(Math.max(1, plain.count(1)));
    }

    private int someHall() {
        return some(Math.max(1, plain.count(2)));
    }

    private int someWeek() {
        int now = plain.count(0);
        return upTo(6) == 0 ? some(60) : Math.min(59, now + some(weekSpan));
    }

    private void due(String call, int got, int want) {
        Due.due(run + call, got, want);
    }

    private void oneStep() {
        int dice = upTo(100);
        if (dice < 4) {
            addTurn();
        } else if (dice < 6) {
            addHall();
        } else if (dice < 8) {
            int n = upTo(3) == 0 ? some(70) : some(3);
            due("weeks " + n, x.weeks(n), plain.weeks(n));
        } else if (dice < 20) {
            signText();
        } else if (dice < 22) {
            int t = someTurn();
            int w = some(60);
            int k = some(60);
            due("force", x.force(t, w, k), plain.force(t, w, k));
        } else if (dice < 60) {
            bookings(dice);
        } else {
            questions(dice);
        }
    }

    private void addTurn() {
        int minutes = roomy ? 3 + some(6) : some(24);
        int kind = kinds == 0 ? 0 : some(4);
        boolean full = upTo(kinds == 2 ? 2 : 5) == 0;
        int like = some(10);
        int draw = kinds == 3 ? some(3) : some(100);
        due("turn", x.turn(minutes, kind, full, like, draw), plain.turn(minutes, kind, full, like, draw));
    }

    private void addHall() {
        int mile = some(301);
        int seats = some(1001);
        int minutes = roomy ? 60 + some(61) : some(121);
        due("hall", x.hall(mile, seats, minutes), plain.hall(mile, seats, minutes));
    }

    private String statement() {
        if (upTo(3) == 0) {
            return "bar " + upTo(200) + " weeks " + upTo(8) + ";";
        }
        return OPENINGS[upTo(OPENINGS.length)] + upTo(upTo(5) == 0 ? 1000 : 10) + ";";
    }

    private String someText() {
        StringBuilder text = new StringBuilder();
        int statements = upTo(8) == 0 ? upTo(15) : upTo(4);
        for (int i = 0; i < statements; i++) {
            text.append(statement()).append(upTo(2) == 0 ? " " : upTo(2) == 0 ? "\n" : "");
        }
        if (upTo(3) == 0 && text.length() > 0) {
            int at = upTo(text.length());
            switch (upTo(4)) {
                case 0 -> text.deleteCharAt(at);
                case 1 -> text.setCharAt(at, (char) upTo(256));
                case 2 -> text.insert(at, " ;7abz\t".charAt(upTo(7)));
                default -> text.setLength(at);
            }
        }
        return text.toString();
    }

    private void signText() {
        String text = someText();
        int n = upTo(12) == 0 ? some(620) : text.length() + plain.count(5);
        for (int at = 0; at < text.length(); at += 20) {
            int[] f = new int[5];
            for (int i = 0; i < 20; i++) {
                int sign = at + i < text.length() ? text.charAt(at + i) : ' ';
                f[i / 4] = f[i / 4] << 8 | sign;
            }
            due("feed", x.feed(f[0], f[1], f[2], f[3], f[4]), plain.feed(f));
        }
        if (upTo(10) != 0) {
            int t = someTurn();
            int from = someWeek();
            due("sign '" + text + "'", x.sign(t, from, n), plain.sign(t, from, n));
        }
        due("fault of '" + text + "'", x.fault(), plain.fault());
    }

    private void bookings(int dice) {
        int t = someTurn();
        int h = someHall();
        int w = someWeek();
        if (dice < 32) {
            due("why before book", x.why(t, h, w), plain.why(t, h, w));
            due("book", x.book(t, h, w), plain.book(t, h, w));
        } else if (dice < 37) {
            due("cancel", x.cancel(t, w), plain.cancel(t, w) ? 1 : 0);
        } else if (dice < 43) {
            int booked = plain.bill(h, w, 10 + upTo(3));
            int failing = booked < 0 ? t : booked;
            due("fail", x.fail(failing, w), plain.fail(failing, w));
        } else {
            int n = some(11);
            due("fill", x.fill(h, w, n), plain.fill(h, w, n));
        }
    }

    private void questions(int dice) {
        int t = someTurn();
        int h = someHall();
        int w = someWeek();
        if (dice < 67) {
            due("why", x.why(t, h, w), plain.why(t, h, w));
        } else if (dice < 72) {
            due("where", x.where(t, w), plain.where(t, w));
        } else if (dice < 80) {
            int what = some(20);
            due("bill " + what, x.bill(h, w, what), plain.bill(h, w, what));
        } else if (dice < 82) {
            int k = some(9);
            due("order " + k, x.order(h, w, k), plain.order(h, w, k));
            due("waits", x.waits(h, w), plain.waits(h, w));
        } else if (dice < 90) {
            ordersOfABill();
        } else if (dice < 94) {
            int known = some(60);
            due("pay", x.pay(t, w, known), plain.pay(t, w, known));
        } else if (dice < 97) {
            int what = some(8);
            due("turnOf " + what, x.turnOf(t, what), plain.turnOf(t, what));
        } else {
            int what = some(7);
            due("count " + what, x.count(what), plain.count(what));
        }
    }

    /** All of the order of a bill that has TURNS, as far as one is found. */
    private void ordersOfABill() {
        int h = 0;
        int w = 0;
        for (int i = 0; i < 30 && plain.bill(h, w, 0) < 2 + upTo(8); i++) {
            h = someHall();
            w = someWeek();
        }
        int size = Math.max(0, plain.bill(h, w, 0));
        due("waits of " + size, x.waits(h, w), plain.waits(h, w));
        for (int k = 0; k <= size; k++) {
            due("order of " + size, x.order(h, w, k), plain.order(h, w, k));
        }
    }
}

import java.util.ArrayList;
import java.util.Collections;
import java.util.Comparator;
import java.util.List;
import java.util.function.Predicate;
import java.util.stream.Collectors;

/** The document told again in the slowest and plainest way, to compare answers with. */
final class PlainOffice {
    record Act(int minutes, int kind, boolean full, int like, int draw) { }

    record House(int mile, int seats, int minutes) { }

    record Deed(int number, int turn, int from, int signed, List<String[]> statements) { }

    record Engagement(int turn, int hall, int week) { }

    record Token(String text, int place) { }

    private static final String[][] SHAPES = {
        {"bar", "#", "weeks", "#", ";"}, {"apart", "like", "#", ";"}, {"apart", "turn", "#", ";"},
        {"never", "hall", "#", ";"}, {"pay", "#", ";"}, {"place", "#", ";"}
    };

    private final List<Act> acts = new ArrayList<>();
    private final List<House> houses = new ArrayList<>();
    private final List<Deed> deeds = new ArrayList<>();
    private final List<Engagement> engagements = new ArrayList<>();
    private final List<Integer> failures = new ArrayList<>();
    private final StringBuilder tape = new StringBuilder();
    private int now = 0;
    private int faultPlace = -1;
    private int bestSum = 0;

    int weeks(int n) {
        if (n < 1 || (long) now + n > 59) {
            return -1;
        }
        now += n;
        return now;
    }

    int turn(int minutes, int kind, boolean full, int like, int draw) {
        if (minutes < 3 || minutes > 20 || kind < 0 || kind > 3 || (kind == 3 && full)
                || like < 0 || like > 9 || draw < 0 || draw > 99 || acts.size() == 40) {
            return -1;
        }
        acts.add(new Act(minutes, kind, full, like, draw));
        return acts.size() - 1;
    }

    int hall(int mile, int seats, int minutes) {
        if (mile < 0 || mile > 300 || seats < 1 || seats > 1000 || minutes < 20 || minutes > 120
                || houses.size() == 10) {
            return -1;
        }
        houses.add(new House(mile, seats, minutes));
        return houses.size() - 1;
    }

    int feed(int... numbers) {
        if (tape.length() + 20 > 600) {
            return -1;
        }
        for (int number : numbers) {
            for (int shift = 24; shift >= 0; shift -= 8) {
                tape.append((char) (number >> shift & 255));
            }
        }
        return tape.length();
    }

    int sign(int turn, int from, int n) {
        if (!isTurn(turn) || !isWeek(from) || n < 0 || n > tape.length()) {
            return -2;
        }
        if (deeds.size() == 60) {
            return -3;
        }
        String text = tape.substring(0, n);
        tape.setLength(0);
        List<String[]> statements = new ArrayList<>();
        faultPlace = read(text, statements);
        if (faultPlace != -1) {
            return -1;
        }
        deeds.add(new Deed(deeds.size(), turn, from, now, statements));
        return deeds.size() - 1;
    }

    int fault() {
        return faultPlace;
    }

    private static List<Token> tokens(String text) {
        List<Token> found = new ArrayList<>();
        java.util.regex.Matcher m = java.util.regex.Pattern.compile("[a-z]+|[0-9]+|[^ \n]").matcher(text);
        while (m.find()) {
            found.add(new Token(m.group(), m.start()));
        }
        return found;
    }

    private static int read(String text, List<String[]> statements) {
        List<String> open = new ArrayList<>();
        for (Token token : tokens(text)) {
            if (open.isEmpty() && statements.size() == 12) {
                return token.place();
            }
            open.add(token.text());
            int fitting = fitting(open);
            if (fitting == -1) {
                return token.place();
            }
            if (open.size() == SHAPES[fitting].length) {
                statements.add(open.toArray(new String[0]));
                open.clear();
            }
        }
        return open.isEmpty() ? -1 : text.length();
    }

    private static int fitting(List<String> open) {
        for (int s = 0; s < SHAPES.length; s++) {
            boolean fits = open.size() <= SHAPES[s].length;
            for (int i = 0; fits && i < open.size(); i++) {
                String want = SHAPES[s][i];
                fits = want.equals("#") ? open.get(i).matches("[0-9]{1,3}") : open.get(i).equals(want);
            }
            if (fits) {
                return s;
            }
        }
        return -1;
    }

    private boolean isTurn(int turn) {
        return turn >= 0 && turn < acts.size();
    }

    private boolean isHall(int hall) {
        return hall >= 0 && hall < houses.size();
    }

    private static boolean isWeek(int week) {
        return week >= 0 && week <= 59;
    }

    private Deed inForce(int turn, int week, int known) {
        return deeds.stream()
                .filter(d -> d.turn() == turn && d.signed() <= known && d.from() <= week)
                .max(Comparator.comparingInt(Deed::from).thenComparingInt(Deed::number)).orElse(null);
    }

    int force(int turn, int week, int known) {
        Deed deed = isTurn(turn) && isWeek(week) && isWeek(known) ? inForce(turn, week, known) : null;
        return deed == null ? -1 : deed.number();
    }

    private static boolean any(Deed deed, Predicate<String[]> test) {
        return deed != null && deed.statements().stream().anyMatch(test);
    }

    private static int last(Deed deed, String word) {
        int number = 0;
        if (deed != null) {
            for (String[] s : deed.statements()) {
                number = s[0].equals(word) ? Integer.parseInt(s[1]) : number;
            }
        }
        return number;
    }

    private List<Integer> onBill(int hall, int week) {
        return engagements.stream().filter(e -> e.hall() == hall && e.week() == week)
                .map(Engagement::turn).sorted().collect(Collectors.toList());
    }

    private int miles(int one, int other) {
        return Math.abs(houses.get(one).mile() - houses.get(other).mile());
    }

    private boolean bars(Deed deed, Engagement other, int hall, int week) {
        return any(deed, s -> s[0].equals("bar") && miles(other.hall(), hall) < Integer.parseInt(s[1])
                && Math.abs(other.week() - week) <= Integer.parseInt(s[3]));
    }

    private boolean apart(Deed deed, int from) {
        return any(deed, s -> s[0].equals("apart")
                && Integer.parseInt(s[2]) == (s[1].equals("like") ? acts.get(from).like() : from));
    }

    int why(int turn, int hall, int week) {
        if (!isTurn(turn) || !isHall(hall) || week < now || week > 59) {
            return 1;
        }
        List<Engagement> its = engagements.stream().filter(e -> e.turn() == turn).collect(Collectors.toList());
        List<Integer> theirs = onBill(hall, week);
        Deed own = inForce(turn, week, now);
        boolean[] barred = new boolean[12];
        barred[2] = its.stream().anyMatch(e -> e.week() == week);
        barred[3] = its.stream().anyMatch(e -> Math.abs(e.week() - week) == 1 && miles(e.hall(), hall) > 150);
        barred[4] = any(own, s -> s[0].equals("never") && Integer.parseInt(s[2]) == hall);
        barred[5] = its.stream().anyMatch(e -> bars(own, e, hall, week));
        barred[6] = its.stream().anyMatch(e -> bars(inForce(turn, e.week(), now), e, hall, week));
        barred[7] = theirs.stream().anyMatch(t -> acts.get(t).like() == acts.get(turn).like());
        barred[8] = theirs.stream().anyMatch(t -> apart(own, t) || apart(inForce(t, week, now), turn));
        barred[9] = its.stream().anyMatch(e -> e.hall() == hall && Math.abs(e.week() - week) < 8);
        barred[10] = theirs.size() >= 9;
        barred[11] = theirs.stream().mapToInt(t -> acts.get(t).minutes()).sum() + acts.get(turn).minutes()
                > houses.get(hall).minutes();
        for (int i = 2; i <= 11; i++) {
            if (barred[i]) {
                return i;
            }
        }
        return 0;
    }

    int book(int turn, int hall, int week) {
        if (why(turn, hall, week) != 0 || engagements.size() == 400) {
            return -1;
        }
        engagements.add(new Engagement(turn, hall, week));
        return onBill(hall, week).size();
    }

    boolean cancel(int turn, int week) {
        return week >= now && engagements.removeIf(e -> e.turn() == turn && e.week() == week);
    }

    int where(int turn, int week) {
        for (Engagement e : engagements) {
            if (e.turn() == turn && e.week() == week) {
                return e.hall();
            }
        }
        return -1;
    }

    int bill(int hall, int week, int what) {
        if (!isHall(hall) || !isWeek(week)) {
            return -1;
        }
        List<Integer> on = onBill(hall, week);
        List<Act> tops = on.stream().map(acts::get).filter(a -> a.kind() == 1).collect(Collectors.toList());
        if (what == 0) {
            return on.size();
        }
        if (what == 1) {
            return on.stream().mapToInt(t -> acts.get(t).minutes()).sum();
        }
        if (what == 2) {
            int percent = 40 + tops.stream().mapToInt(Act::draw).sum();
            return (int) Math.floor(houses.get(hall).seats() * (percent > 100 ? 100 : percent) / 100.0);
        }
        if (what == 3) {
            return on.stream().mapToInt(t -> last(inForce(t, week, now), "pay")).sum();
        }
        if (what == 4) {
            return tops.size();
        }
        return what >= 10 && what - 10 < on.size() ? on.get(what - 10) : -1;
    }

    /** The BEST ORDER by going through all ORDERS, the least TURNS first; null: there is none. */
    private List<Integer> bestOrder(int hall, int week) {
        List<Integer> on = isHall(hall) && isWeek(week) ? onBill(hall, week) : Collections.emptyList();
        int[] told = new int[40];
        for (int turn : on) {
            told[turn] = last(inForce(turn, week, now), "place");
        }
        List<Integer> best = new ArrayList<>();
        if (!on.isEmpty()) {
            tryAll(on, told, new ArrayList<>(), 0, best);
        }
        return best.isEmpty() ? null : best;
    }

    private void tryAll(List<Integer> on, int[] told, List<Integer> laid, int sum, List<Integer> best) {
        if (!best.isEmpty() && sum >= bestSum) {
            return;
        }
        if (laid.size() == on.size()) {
            best.clear();
            best.addAll(laid);
            bestSum = sum;
            return;
        }
        for (int turn : on) {
            if (!laid.contains(turn) && mayFollow(on.size(), told[turn], laid, turn)) {
                int wait = laid.isEmpty() ? 0 : waitBetween(laid.get(laid.size() - 1), turn);
                laid.add(turn);
                tryAll(on, told, laid, sum + wait, best);
                laid.remove(laid.size() - 1);
            }
        }
    }

    private boolean mayFollow(int size, int told, List<Integer> laid, int turn) {
        int place = laid.size() + 1;
        boolean besideFull = place > 1 && acts.get(laid.get(place - 2)).full();
        return !(besideFull && acts.get(turn).full())
                && !(acts.get(turn).kind() == 2 && place != 1 && place != size)
                && !(told >= 1 && told <= size && told != place);
    }

    private int waitBetween(int turn, int next) {
        Act one = acts.get(turn);
        Act other = acts.get(next);
        return one.kind() == 3 || other.kind() == 3 ? 0 : one.full() || other.full() ? 2 : 1;
    }

    int order(int hall, int week, int k) {
        List<Integer> best = bestOrder(hall, week);
        return best != null && k >= 0 && k < best.size() ? best.get(k) : -1;
    }

    int waits(int hall, int week) {
        List<Integer> best = bestOrder(hall, week);
        return best == null ? -1 : bestSum;
    }

    private int freeWithGreatestDraw(int hall, int week, int butFor) {
        int found = -1;
        for (int t = acts.size() - 1; t >= 0; t--) {
            boolean free = t != butFor && why(t, hall, week) == 0;
            if (free && (found == -1 || acts.get(t).draw() >= acts.get(found).draw())) {
                found = t;
            }
        }
        return found;
    }

    int fail(int turn, int week) {
        int hall = week < now ? -1 : where(turn, week);
        if (hall == -1) {
            return -2;
        }
        cancel(turn, week);
        failures.add(turn);
        int standIn = freeWithGreatestDraw(hall, week, turn);
        if (standIn != -1) {
            engagements.add(new Engagement(standIn, hall, week));
        }
        return standIn;
    }

    int fill(int hall, int week, int n) {
        if (!isHall(hall) || week < now || week > 59 || n < 0 || n > 9) {
            return -1;
        }
        while (onBill(hall, week).size() < n) {
            int next = freeWithGreatestDraw(hall, week, -1);
            if (next == -1 || book(next, hall, week) == -1) {
                break;
            }
        }
        return onBill(hall, week).size();
    }

    int pay(int turn, int week, int known) {
        return where(turn, week) == -1 || !isWeek(known) ? 0 : last(inForce(turn, week, known), "pay");
    }

    int turnOf(int turn, int what) {
        if (!isTurn(turn) || what < 0 || what > 6) {
            return -1;
        }
        Act act = acts.get(turn);
        return new int[] {
            act.minutes(), act.kind(), act.full() ? 1 : 0, act.like(), act.draw(),
            (int) engagements.stream().filter(e -> e.turn() == turn).count(),
            Collections.frequency(failures, turn)
        }[what];
    }

    int count(int what) {
        int[] counts = {now, acts.size(), houses.size(), deeds.size(), engagements.size(), tape.length()};
        return what >= 0 && what < counts.length ? counts[what] : -1;
    }
}

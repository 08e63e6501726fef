import java.util.ArrayList;
import java.util.List;
import java.util.function.Consumer;
import java.util.function.Function;
import java.util.function.ToIntFunction;

/** An office brought to some state, as often as wanted, and all that can be seen of it from there. */
final class Scene {
    /** Calls behind which the office isn't looked at any more, so they may change it. */
    private record Look(String name, Function<Office, String> look) { }

    private static final int LONGEST_LOOK = 20;
    private static final int[] WEEKS_KNOWN = {0, 1, 2, 3, 4, 5, 30, 59};

    private final Consumer<Office> make;
    private final int turns;
    private final int halls;
    private final int bytes;
    private final List<Look> looks = new ArrayList<>();
    private final List<Look> lastLooks = new ArrayList<>();
    private List<String> untouched = null;

    Scene(Consumer<Office> make) {
        this.make = make;
        Office x = office();
        turns = x.count(1);
        halls = x.count(2);
        bytes = x.count(5);
        lookAtTurns();
        lookAtHalls();
        lookLast();
    }

    Office office() {
        Office x = new Office();
        make.accept(x);
        return x;
    }

    /** The call gives this answer, and nothing that can be seen is other than without the call. */
    void changesNothing(String call, ToIntFunction<Office> asked, int want) {
        Edge.due(call, asked.applyAsInt(office()), want);
        if (untouched == null) {
            untouched = seenBehind(x -> 0);
        }
        List<String> touched = seenBehind(asked);
        String changed = "";
        for (int i = 0; i < touched.size() && changed.isEmpty(); i++) {
            if (!touched.get(i).equals(untouched.get(i))) {
                changed = " (" + touched.get(i) + " for " + untouched.get(i) + ")";
            }
        }
        Edge.due(call + " changes something" + changed, changed.isEmpty() ? 0 : 1, 0);
    }

    /** An object has 512 calls: so many are made as all the looks need. */
    private List<String> seenBehind(ToIntFunction<Office> asked) {
        List<String> seen = new ArrayList<>();
        Office x = null;
        for (Look look : looks) {
            if (x == null || x.callsLeft() < LONGEST_LOOK) {
                x = office();
                asked.applyAsInt(x);
            }
            seen.add(look.name + ": " + look.look.apply(x));
        }
        for (Look look : lastLooks) {
            x = office();
            asked.applyAsInt(x);
            seen.add(look.name + ": " + look.look.apply(x));
        }
        return seen;
    }

    private void look(String name, Function<Office, String> look) {
        looks.add(new Look(name, look));
    }

    private void lookAtTurns() {
        look("counts", x -> each(0, 5, x::count) + x.fault());
        for (int turn = 0; turn < turns; turn++) {
            int t = turn;
            look("turnOf " + t, x -> each(0, 6, what -> x.turnOf(t, what)));
            for (int from = 0; from < 60; from += 20) {
                int w = from;
                look("where " + t + " from " + w, x -> each(w, w + 19, week -> x.where(t, week)));
            }
            for (int week = 0; week < 60; week++) {
                int w = week;
                look("force " + t + " in " + w, x -> known(k -> x.force(t, w, k)));
                look("pay " + t + " in " + w, x -> known(k -> x.pay(t, w, k)));
                look("why " + t + " in " + w, x -> each(0, halls, h -> x.why(t, h, w)));
            }
        }
    }

    private void lookAtHalls() {
        for (int hall = 0; hall < halls; hall++) {
            int h = hall;
            for (int week = 0; week < 60; week++) {
                int w = week;
                look("bill " + h + " in " + w, x -> each(0, 4, what -> x.bill(h, w, what))
                        + each(10, 18, what -> x.bill(h, w, what)));
                look("order " + h + " in " + w, x -> each(0, 9, k -> x.order(h, w, k)) + x.waits(h, w));
            }
        }
    }

    private void lookLast() {
        lookLast("weeks", x -> x.weeks(1) + " " + x.weeks(1));
        lookLast("turn", x -> x.turn(3, 0, false, 0, 0) + " " + x.turn(3, 0, false, 0, 0));
        lookLast("hall", x -> x.hall(0, 1, 20) + " " + x.hall(0, 1, 20));
        lookLast("feed", x -> x.feed(0, 0, 0, 0, 0) + " " + x.sign(0, 0, bytes + 10) + " " + x.fault());
        for (int length = 0; length <= bytes; length++) {
            int n = length;
            lookLast("sign " + n, x -> x.sign(0, 0, n) + " " + x.fault() + " " + x.count(3) + " " + x.count(5)
                    + each(0, 59, w -> x.force(0, w, 59)) + each(0, 59, w -> x.pay(0, w, 59))
                    + each(0, halls, h -> x.why(0, h, 59)));
        }
        for (int turn = 0; turn < turns; turn++) {
            int t = turn;
            lookLast("cancel " + t, x -> each(0, 59, w -> x.cancel(t, w)));
            lookLast("fail " + t, x -> each(0, 59, w -> x.fail(t, w)));
        }
        for (int hall = 0; hall < halls; hall++) {
            int h = hall;
            lookLast("fill " + h, x -> each(0, 59, w -> x.fill(h, w, 9)));
        }
    }

    private void lookLast(String name, Function<Office, String> look) {
        lastLooks.add(new Look(name, look));
    }

    private static String each(int first, int last, ToIntFunction<Integer> asked) {
        StringBuilder answers = new StringBuilder();
        for (int i = first; i <= last; i++) {
            answers.append(asked.applyAsInt(i)).append(' ');
        }
        return answers.toString();
    }

    private static String known(ToIntFunction<Integer> asked) {
        StringBuilder answers = new StringBuilder();
        for (int k : WEEKS_KNOWN) {
            answers.append(asked.applyAsInt(k)).append(' ');
        }
        return answers.toString();
    }
}

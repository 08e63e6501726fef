/** Promises 2 to 4, 19 and 20: weeks, turn, hall, turnOf, count. */
public final class BasicsTest {
    private static final int LOW = Integer.MIN_VALUE;
    private static final int HIGH = Integer.MAX_VALUE;

    private BasicsTest() {
    }

    public static void main(String[] args) {
        weeksGoOn();
        turnsAreAsTold();
        hallsAreAsTold();
        turnsTellOfThemselves();
        countsCount();
        Due.end();
    }

    private static void weeksGoOn() {
        Office x = new Office();
        for (int n : new int[] {0, -1, LOW, 60, HIGH}) {
            Due.due("weeks(" + n + ") in 0", x.weeks(n), -1);
            Due.due("NOW behind it", x.count(0), 0);
        }
        Due.due("weeks(1)", x.weeks(1), 1);
        Due.due("weeks(7)", x.weeks(7), 8);
        Due.due("weeks(52) in 8", x.weeks(52), -1);
        Due.due("weeks(HIGH) in 8", x.weeks(HIGH), -1);
        Due.due("weeks(51) in 8", x.weeks(51), 59);
        Due.due("weeks(1) in 59", x.weeks(1), -1);
        Due.due("NOW", x.count(0), 59);
        Due.due("weeks(59) in 0", new Office().weeks(59), 59);
    }

    private static void turnsAreAsTold() {
        Office x = new Office();
        int[][] wrong = {
            {2, 0, 0, 0, 0}, {21, 0, 0, 0, 0}, {LOW, 0, 0, 0, 0}, {HIGH, 0, 0, 0, 0},
            {3, -1, 0, 0, 0}, {3, 4, 0, 0, 0}, {3, 3, 1, 0, 0},
            {3, 0, 0, -1, 0}, {3, 0, 0, 10, 0}, {3, 0, 0, 0, -1}, {3, 0, 0, 0, 100}, {3, LOW, 1, HIGH, LOW}
        };
        for (int[] t : wrong) {
            Due.due("turn not as told", x.turn(t[0], t[1], t[2] == 1, t[3], t[4]), -1);
            Due.due("TURNS behind it", x.count(1), 0);
        }
        Due.due("the least", x.turn(3, 0, false, 0, 0), 0);
        Due.due("the greatest", x.turn(20, 3, false, 9, 99), 1);
        Due.due("a FULL TOP", x.turn(20, 1, true, 9, 99), 2);
        Due.due("a FULL DUMB", x.turn(20, 2, true, 9, 99), 3);
        for (int i = 4; i < 40; i++) {
            Due.due("turn " + i, x.turn(5, 0, false, 1, 1), i);
        }
        Due.due("the 41st", x.turn(5, 0, false, 1, 1), -1);
        Due.due("TURNS", x.count(1), 40);
        Due.due("the 40th's MINUTES", x.turnOf(39, 0), 5);
        Due.due("the 41st's MINUTES", x.turnOf(40, 0), -1);
    }

    private static void hallsAreAsTold() {
        Office x = new Office();
        int[][] wrong = {
            {-1, 1, 20}, {301, 1, 20}, {LOW, 1, 20}, {0, 0, 20}, {0, 1001, 20}, {0, HIGH, 20},
            {0, 1, 19}, {0, 1, 121}, {0, 1, LOW}
        };
        for (int[] h : wrong) {
            Due.due("hall not as told", x.hall(h[0], h[1], h[2]), -1);
            Due.due("HALLS behind it", x.count(2), 0);
        }
        Due.due("the least", x.hall(0, 1, 20), 0);
        Due.due("the greatest", x.hall(300, 1000, 120), 1);
        for (int i = 2; i < 10; i++) {
            Due.due("hall " + i, x.hall(i, 100, 60), i);
        }
        Due.due("the 11th", x.hall(1, 100, 60), -1);
        Due.due("HALLS", x.count(2), 10);
        Due.due("bill of the 10th", x.bill(9, 0, 0), 0);
        Due.due("bill of the 11th", x.bill(10, 0, 0), -1);
    }

    private static void turnsTellOfThemselves() {
        Office x = new Office();
        x.turn(7, 2, true, 4, 63);
        x.turn(8, 3, false, 5, 64);
        x.hall(10, 100, 60);
        x.hall(20, 100, 60);
        int[] due = {7, 2, 1, 4, 63, 0, 0};
        for (int what = 0; what < due.length; what++) {
            Due.due("turnOf(0, " + what + ")", x.turnOf(0, what), due[what]);
        }
        Due.due("one that isn't FULL", x.turnOf(1, 2), 0);
        for (int what : new int[] {-1, 7, LOW, HIGH}) {
            Due.due("turnOf(0, " + what + ")", x.turnOf(0, what), -1);
        }
        for (int turn : new int[] {-1, 2, LOW, HIGH}) {
            Due.due("turnOf(" + turn + ", 5)", x.turnOf(turn, 5), -1);
        }
        x.book(0, 0, 0);
        x.book(0, 1, 3);
        Due.due("bookings", x.turnOf(0, 5), 2);
        Due.due("bookings of another", x.turnOf(1, 5), 0);
        x.fail(0, 3);
        Due.due("bookings, one FAILED", x.turnOf(0, 5), 1);
        Due.due("FAILED", x.turnOf(0, 6), 1);
        x.cancel(0, 0);
        Due.due("bookings, one cancelled", x.turnOf(0, 5), 0);
        Due.due("FAILED, none more", x.turnOf(0, 6), 1);
        x.book(0, 0, 0);
        x.weeks(1);
        Due.due("bookings, one gone by", x.turnOf(0, 5), 1);
    }

    private static void countsCount() {
        Office x = new Office();
        x.weeks(4);
        for (int i = 0; i < 3; i++) {
            x.turn(5, 0, false, i, 0);
        }
        x.hall(1, 1, 20);
        x.hall(2, 1, 20);
        x.signText(0, 0, "pay 1;");
        x.book(0, 0, 4);
        x.book(1, 0, 4);
        x.book(1, 1, 5);
        x.feed(0, 0, 0, 0, 0);
        int[] due = {4, 3, 2, 1, 3, 20};
        for (int what = 0; what < due.length; what++) {
            Due.due("count(" + what + ")", x.count(what), due[what]);
        }
        for (int what : new int[] {-1, 6, LOW, HIGH}) {
            Due.due("count(" + what + ")", x.count(what), -1);
        }
        x.cancel(1, 5);
        x.weeks(5);
        Due.due("bookings that went by count on", x.count(4), 2);
    }
}

/** Promises 16 and 17: fail with its STAND-IN, fill. */
public final class FailFillTest {
    private static final int LOW = Integer.MIN_VALUE;
    private static final int HIGH = Integer.MAX_VALUE;

    private FailFillTest() {
    }

    public static void main(String[] args) {
        failRefuses();
        standInHasTheGreatestDraw();
        standInIsNotBarred();
        standInMayTakeItsPlace();
        nobodyStandsIn();
        fillRefuses();
        fillTakesTheGreatestDraw();
        fillKeepsToTheBars();
        Due.end();
    }

    private static Office office(int... draws) {
        Office x = new Office();
        for (int i = 0; i < draws.length; i++) {
            x.turn(10, 0, false, i % 10, draws[i]);
        }
        x.hall(0, 100, 30);
        x.hall(50, 100, 120);
        return x;
    }

    private static void failRefuses() {
        Office x = office(1, 2, 3);
        x.book(0, 0, 1);
        x.book(0, 1, 3);
        int[][] wrong = {{1, 1}, {0, 0}, {0, 2}, {-1, 1}, {3, 1}, {0, -1}, {0, 60}, {HIGH, LOW}, {LOW, HIGH}};
        for (int[] f : wrong) {
            Due.due("fail of one not booked", x.fail(f[0], f[1]), -2);
        }
        Due.due("FAILED", x.turnOf(0, 6), 0);
        x.weeks(2);
        Due.due("fail ahead of NOW", x.fail(0, 1), -2);
        Due.due("where", x.where(0, 1), 0);
        Due.due("FAILED", x.turnOf(0, 6), 0);
        Due.due("bookings", x.count(4), 2);
        x.weeks(1);
        Due.due("fail NOW", x.fail(0, 3), 2);
    }

    private static void standInHasTheGreatestDraw() {
        Office x = office(99, 5, 7, 7, 6);
        x.book(0, 0, 2);
        Due.due("fail", x.fail(0, 2), 2);
        Due.due("where it was", x.where(0, 2), -1);
        Due.due("where the other one is", x.where(2, 2), 0);
        Due.due("FAILED", x.turnOf(0, 6), 1);
        Due.due("the other one's bookings", x.turnOf(2, 5), 1);
        Due.due("bookings", x.count(4), 1);
        Due.due("the STAND-IN fails: the first one may stand in", x.fail(2, 2), 0);
        Due.due("FAILED", x.turnOf(2, 6), 1);
        x.book(2, 1, 2);
        Due.due("fail, with one booked elsewhere", x.fail(0, 2), 3);
        Due.due("FAILED twice", x.turnOf(0, 6), 2);
    }

    private static void standInIsNotBarred() {
        Office x = office(10, 60, 50, 40, 30);
        x.signText(1, 0, "never hall 0;");
        x.book(2, 0, 9);
        x.book(0, 0, 2);
        Due.due("fail", x.fail(0, 2), 3);
        Due.due("bill", x.bill(0, 2, 0), 1);
    }

    private static void standInMayTakeItsPlace() {
        Office x = office(10, 20, 30, 40, 50, 60, 70, 80, 90, 5, 99, 98);
        x.book(0, 0, 0);
        x.book(1, 0, 0);
        x.book(2, 0, 0);
        Due.due("why, too long", x.why(9, 0, 0), 11);
        Due.due("alike with the one that FAILS, and no minutes left but its own", x.fail(0, 0), 10);
        Due.due("bill", x.bill(0, 0, 1), 30);
        x.book(4, 1, 0);
        x.signText(4, 0, "apart turn 8; apart turn 11;");
        Due.due("why, apart", x.why(8, 1, 0), 8);
        Due.due("apart from the one that FAILS", x.fail(4, 0), 11);
    }

    private static void nobodyStandsIn() {
        Office x = office(10);
        x.book(0, 0, 2);
        Due.due("fail", x.fail(0, 2), -1);
        Due.due("where", x.where(0, 2), -1);
        Due.due("FAILED", x.turnOf(0, 6), 1);
        Due.due("bookings", x.count(4), 0);
        Due.due("fail again", x.fail(0, 2), -2);
        Due.due("FAILED", x.turnOf(0, 6), 1);
        Due.due("book again", x.book(0, 0, 2), 1);
    }

    private static void fillRefuses() {
        Office x = office(1, 2, 3);
        x.weeks(2);
        int[][] wrong = {
            {-1, 2, 1}, {2, 2, 1}, {HIGH, 2, 1}, {0, 1, 1}, {0, -1, 1}, {0, 60, 1}, {0, LOW, 1}, {0, HIGH, 1},
            {0, 2, -1}, {0, 2, 10}, {0, 2, LOW}, {0, 2, HIGH}
        };
        for (int[] f : wrong) {
            Due.due("fill of none such", x.fill(f[0], f[1], f[2]), -1);
            Due.due("bookings behind it", x.count(4), 0);
        }
        Due.due("fill with 0", x.fill(0, 2, 0), 0);
        Due.due("bookings", x.count(4), 0);
        Due.due("fill in the last WEEK", x.fill(0, 59, 1), 1);
    }

    private static void fillTakesTheGreatestDraw() {
        Office x = office(10, 50, 30, 50, 20);
        Due.due("fill up to 1", x.fill(1, 0, 1), 1);
        Due.due("the least of the greatest", x.bill(1, 0, 10), 1);
        Due.due("fill up to 3", x.fill(1, 0, 3), 3);
        Due.due("the next", x.bill(1, 0, 11), 2);
        Due.due("the next", x.bill(1, 0, 12), 3);
        Due.due("fill up to 2", x.fill(1, 0, 2), 3);
        Due.due("fill up to 9", x.fill(1, 0, 9), 5);
        Due.due("bookings", x.count(4), 5);
        Due.due("fill, none left", x.fill(0, 0, 9), 0);
    }

    private static void fillKeepsToTheBars() {
        Office x = office(10, 20, 30, 40, 50, 60, 70, 80, 90, 5, 99, 98);
        x.signText(10, 0, "apart turn 11;");
        x.signText(7, 0, "apart like 8;");
        Due.due("fill up to its MINUTES", x.fill(0, 0, 9), 3);
        Due.due("the greatest", x.where(10, 0), 0);
        Due.due("apart from it", x.where(11, 0), -1);
        Due.due("the next", x.where(8, 0), 0);
        Due.due("apart from that", x.where(7, 0), -1);
        Due.due("the next", x.where(6, 0), 0);
        Due.due("fill with those left", x.fill(1, 0, 9), 8);
        Due.due("alike with another", x.where(1, 0), -1);
        Due.due("those not alike", x.where(0, 0), 1);
        Due.due("fill the WEEK behind", x.fill(1, 1, 9), 4);
        Due.due("bookings", x.count(4), 15);
    }
}

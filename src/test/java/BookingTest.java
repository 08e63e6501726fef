/** Promises 10 to 13: book, cancel, where, bill. */
public final class BookingTest {
    private static final int LOW = Integer.MIN_VALUE;
    private static final int HIGH = Integer.MAX_VALUE;

    private BookingTest() {
    }

    public static void main(String[] args) {
        bookings();
        fourHundredAtMost();
        cancelling();
        whereabouts();
        billsTell();
        takingsAreCut();
        payOfABill();
        emptyBills();
        Due.end();
    }

    private static Office office() {
        Office x = new Office();
        x.turn(5, 0, false, 0, 50);
        x.turn(6, 1, false, 1, 13);
        x.turn(7, 1, true, 2, 20);
        x.turn(8, 2, false, 3, 99);
        x.turn(9, 1, false, 4, 80);
        x.hall(0, 999, 60);
        x.hall(100, 10, 60);
        return x;
    }

    private static void bookings() {
        Office x = office();
        Due.due("book", x.book(0, 0, 0), 1);
        Due.due("book", x.book(1, 0, 0), 2);
        Due.due("book on another bill", x.book(2, 1, 0), 1);
        Due.due("book in another WEEK", x.book(0, 1, 1), 1);
        Due.due("book again", x.book(0, 0, 0), -1);
        Due.due("book, barred", x.book(0, 1, 2), -1);
        int[][] wrong = {{-1, 0, 0}, {5, 0, 0}, {3, 2, 0}, {3, -1, 0}, {3, 0, -1}, {3, 0, 60}, {LOW, HIGH, LOW}};
        for (int[] b : wrong) {
            Due.due("book, not as told", x.book(b[0], b[1], b[2]), -1);
        }
        Due.due("bookings", x.count(4), 4);
        x.weeks(2);
        Due.due("book ahead of NOW", x.book(3, 0, 1), -1);
        Due.due("book NOW", x.book(3, 0, 2), 1);
        Due.due("book in the last WEEK", x.book(3, 0, 59), 1);
    }

    /** Forty TURNS of three minutes go from hall to hall in groups of ten, so that all may be booked each WEEK. */
    private static void fourHundredAtMost() {
        Office x = new Office();
        for (int i = 0; i < 40; i++) {
            x.turn(3, 0, false, i % 10, 0);
        }
        for (int i = 0; i < 10; i++) {
            x.hall(i, 100, 120);
        }
        int booked = 0;
        for (int week = 0; week < 13 && booked < 400; week++) {
            for (int h = 0; h < 4 && booked < 400; h++) {
                int size = x.fill((week + 2 * h) % 10, week, 9);
                booked += size;
                Due.due("bookings behind a fill", x.count(4), booked);
                Due.due("a bill's size", size <= 9 && size > 0, true);
            }
        }
        Due.due("bookings", booked, 400);
        Due.due("why there", x.why(0, 0, 40), 0);
        Due.due("book the 401st", x.book(0, 0, 40), -1);
        Due.due("fill with 400 there", x.fill(0, 40, 9), 0);
        Due.due("bookings", x.count(4), 400);
        int hall = x.where(0, 0);
        int standIn = x.fail(0, 0);
        Due.due("a STAND-IN with 400 there", x.where(standIn, 0), hall);
        Due.due("bookings", x.count(4), 400);
        Due.due("cancel", x.cancel(standIn, 0), 1);
        Due.due("fill with 399 there", x.fill(0, 40, 9), 1);
        Due.due("where", x.where(0, 40), 0);
        Due.due("bookings", x.count(4), 400);
    }

    private static void cancelling() {
        Office x = office();
        x.book(0, 0, 0);
        x.book(0, 1, 3);
        Due.due("cancel", x.cancel(0, 3), 1);
        Due.due("cancel again", x.cancel(0, 3), 0);
        Due.due("where", x.where(0, 3), -1);
        Due.due("bookings", x.count(4), 1);
        Due.due("FAILED", x.turnOf(0, 6), 0);
        Due.due("book again", x.book(0, 1, 3), 1);
        int[][] wrong = {{1, 0}, {-1, 0}, {5, 0}, {0, -1}, {0, 60}, {0, 1}, {HIGH, 0}, {0, HIGH}, {0, LOW}};
        for (int[] c : wrong) {
            Due.due("cancel of none such", x.cancel(c[0], c[1]), 0);
        }
        x.weeks(3);
        Due.due("cancel ahead of NOW", x.cancel(0, 0), 0);
        Due.due("where", x.where(0, 0), 0);
        Due.due("cancel NOW", x.cancel(0, 3), 1);
        Due.due("bookings", x.count(4), 1);
    }

    private static void whereabouts() {
        Office x = office();
        x.book(0, 1, 2);
        Due.due("where", x.where(0, 2), 1);
        int[][] none = {{0, 1}, {0, 3}, {1, 2}, {-1, 2}, {5, 2}, {0, -1}, {0, 60}, {LOW, 2}, {0, HIGH}};
        for (int[] w : none) {
            Due.due("where, none", x.where(w[0], w[1]), -1);
        }
        x.weeks(9);
        Due.due("where it was", x.where(0, 2), 1);
    }

    private static void bill(Office x, int hall, int week, int what, int due) {
        Due.due("bill(" + hall + ", " + week + ", " + what + ")", x.bill(hall, week, what), due);
    }

    private static void billsTell() {
        Office x = office();
        x.book(3, 0, 4);
        x.book(0, 0, 4);
        x.book(2, 0, 4);
        x.book(1, 1, 4);
        int[] due = {3, 20, 599, 0, 1, -1, -1, -1, -1, -1, 0, 2, 3, -1, -1};
        for (int what = 0; what < due.length; what++) {
            bill(x, 0, 4, what, due[what]);
        }
        for (int what : new int[] {-1, LOW, HIGH, 19, 20}) {
            bill(x, 0, 4, what, -1);
        }
        bill(x, 1, 4, 10, 1);
        bill(x, 1, 4, 0, 1);
        x.cancel(0, 4);
        bill(x, 0, 4, 10, 2);
        bill(x, 0, 4, 11, 3);
        bill(x, 0, 4, 12, -1);
        bill(x, 0, 4, 1, 15);
        x.weeks(6);
        bill(x, 0, 4, 0, 2);
    }

    private static void takingsAreCut() {
        Office x = office();
        x.book(1, 0, 0);
        bill(x, 0, 0, 2, 529);
        x.book(2, 0, 0);
        bill(x, 0, 0, 2, 729);
        bill(x, 0, 0, 4, 2);
        x.book(4, 0, 0);
        bill(x, 0, 0, 2, 999);
        bill(x, 0, 0, 4, 3);
        x.book(3, 1, 0);
        bill(x, 1, 0, 2, 4);
        bill(x, 1, 0, 4, 0);
    }

    private static void payOfABill() {
        Office x = office();
        x.book(0, 0, 0);
        x.book(1, 0, 0);
        x.book(2, 0, 0);
        x.signText(0, 0, "pay 100;");
        x.signText(1, 0, "pay 20; pay 30;");
        x.signText(2, 1, "pay 500;");
        x.signText(3, 0, "pay 700;");
        bill(x, 0, 0, 3, 130);
        x.weeks(2);
        bill(x, 0, 0, 3, 130);
        x.signText(2, 0, "pay 999;");
        bill(x, 0, 0, 3, 1129);
    }

    private static void emptyBills() {
        Office x = office();
        int[] due = {0, 0, 399, 0, 0, -1, -1, -1, -1, -1, -1};
        for (int what = 0; what < due.length; what++) {
            bill(x, 0, 59, what, due[what]);
            bill(x, 0, 60, what, -1);
            bill(x, 0, -1, what, -1);
            bill(x, 2, 0, what, -1);
            bill(x, -1, 0, what, -1);
            bill(x, HIGH, LOW, what, -1);
        }
    }
}

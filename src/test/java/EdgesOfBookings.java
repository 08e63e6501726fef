import java.util.function.Consumer;

/** Promises 10 to 13, sentence by sentence: book, cancel, where, bill. */
final class EdgesOfBookings {
    private static final int LOW = Edge.LOW;
    private static final int HIGH = Edge.HIGH;
    private static final Scene BUSY = new Scene(Scenes::busy);

    private EdgesOfBookings() {
    }

    static void all() {
        booking();
        bookRefused();
        fourHundred();
        cancelling();
        cancelRefused();
        whereabouts();
        billsTell();
        billsNumbered();
        noSuchBill();
        takings();
    }

    private static void booking() {
        Edge.sentence(10, "A TURN is booked: how many are on that bill.");
        Office x = BUSY.office();
        Edge.due("the first", x.book(3, 0, 5), 1);
        Edge.due("where", x.where(3, 5), 0);
        Edge.due("bookings", x.count(4), 12);
        Edge.due("its bookings", x.turnOf(3, 5), 1);
        Edge.due("the second", x.book(4, 0, 5), 2);
        Edge.due("on another bill", x.book(3, 1, 6), 1);
        Edge.due("in the last WEEK, with two there", x.book(4, 2, 59), 3);
        x = new Office();
        x.hall(0, 100, 120);
        for (int i = 0; i < 9; i++) {
            x.turn(3, 0, false, i, 0);
            Edge.due("up to nine", x.book(i, 0, 0), i + 1);
        }
    }

    private static void barred(int bar, Consumer<Office> made, int turn, int hall, int week) {
        Scene scene = new Scene(made);
        Edge.due("why", scene.office().why(turn, hall, week), bar);
        scene.changesNothing("book, barred by " + bar, x -> x.book(turn, hall, week), -1);
    }

    private static void bookRefused() {
        Edge.sentence(10, "NONE, doing nothing: something bars it,");
        Edge.due("nothing bars", BUSY.office().book(3, 0, 5), 1);
        int[][] notAsTold = {{-1, 0, 5}, {6, 0, 5}, {3, -1, 5}, {3, 3, 5}, {3, 0, 4}, {3, 0, 60}, {3, 0, -1},
            {LOW, 0, 5}, {HIGH, 0, 5}, {3, LOW, 5}, {3, HIGH, 5}, {3, 0, LOW}, {3, 0, HIGH}};
        for (int[] b : notAsTold) {
            BUSY.changesNothing("book, not as told", x -> x.book(b[0], b[1], b[2]), -1);
        }
        barred(1, Scenes::busy, 3, 0, 4);
        barred(2, Scenes::busy, 0, 1, 5);
        barred(3, Scenes::busy, 0, 0, 58);
        barred(4, Scenes::busy, 1, 1, 30);
        barred(5, x -> {
            Scenes.busyWithoutTape(x);
            x.signText(0, 20, "bar 999 weeks 3;");
        }, 0, 2, 56);
        barred(6, x -> {
            Scenes.busyWithoutTape(x);
            x.signText(0, 59, "bar 999 weeks 3;");
        }, 0, 2, 56);
        barred(7, Scenes::busy, 0, 0, 7);
        barred(8, Scenes::busy, 4, 0, 12);
        barred(9, Scenes::busy, 5, 0, 14);
        barred(10, x -> nineBooked(x, 120), 9, 0, 0);
        barred(11, x -> nineBooked(x, 26), 9, 0, 0);
    }

    /** Ten of three minutes; nine are booked, as far as the HALL has MINUTES. */
    private static void nineBooked(Office x, int minutes) {
        x.hall(0, 100, minutes);
        for (int i = 0; i < 10; i++) {
            x.turn(3, 0, false, i, 0);
        }
        x.fill(0, 0, 9);
        x.feedText("pay 1;");
    }

    private static void fourHundred() {
        Edge.sentence(10, "400 are there.");
        Office x = new Office();
        Scenes.bookings(x, 399);
        Edge.due("bookings", x.count(4), 399);
        Edge.due("the 400th", x.book(0, 0, 40), 1);
        Edge.due("why the 401st", x.why(1, 0, 40), 0);
        Edge.due("the 401st", x.book(1, 0, 40), -1);
        Edge.due("bookings", x.count(4), 400);
        x.cancel(0, 40);
        Edge.due("one cancelled, the 400th again", x.book(1, 0, 40), 1);
        Scene scene = new Scene(Scenes::fourHundredBookings);
        Edge.due("bookings", scene.office().count(4), 400);
        Edge.due("why", scene.office().why(0, 0, 40), 0);
        scene.changesNothing("the 401st", y -> y.book(0, 0, 40), -1);
        x = scene.office();
        x.weeks(30);
        Edge.due("those gone by are there, too", x.book(0, 0, 40), -1);
    }

    private static void cancelling() {
        Edge.sentence(11, "A booking is cancelled (NOW or behind it): true.");
        Office x = BUSY.office();
        Edge.due("cancel NOW", x.cancel(0, 5), 1);
        Edge.due("where", x.where(0, 5), -1);
        Edge.due("where in another WEEK", x.where(0, 59), 2);
        Edge.due("another TURN on that bill", x.where(2, 5), 1);
        Edge.due("bookings", x.count(4), 10);
        Edge.due("its bookings", x.turnOf(0, 5), 2);
        Edge.due("it didn't FAIL", x.turnOf(0, 6), 0);
        Edge.due("the bill", x.bill(1, 5, 0), 1);
        Edge.due("cancel in the last WEEK", x.cancel(0, 59), 1);
        Edge.due("bookings", x.count(4), 9);
        Edge.due("book again", x.book(0, 1, 5), 2);
        x.weeks(54);
        Edge.due("cancel NOW, the last WEEK", x.cancel(1, 59), 1);
    }

    private static void cancelRefused() {
        Edge.sentence(11, "False, doing nothing: none such.");
        int[][] none = {{0, 4}, {0, 6}, {0, 58}, {3, 5}, {-1, 5}, {6, 5}, {0, -1}, {0, 60}, {LOW, 5}, {HIGH, 5},
            {0, LOW}, {0, HIGH}};
        for (int[] c : none) {
            BUSY.changesNothing("cancel(" + c[0] + ", " + c[1] + ")", x -> x.cancel(c[0], c[1]), 0);
        }
        Edge.due("a booking that has gone by", BUSY.office().where(0, Scenes.GONE_BY), 0);
        BUSY.changesNothing("cancel ahead of NOW", x -> x.cancel(0, Scenes.GONE_BY), 0);
        Office x = BUSY.office();
        x.weeks(1);
        Edge.due("cancel in the WEEK ahead of NOW", x.cancel(0, 5), 0);
        Edge.due("where", x.where(0, 5), 1);
        x = BUSY.office();
        Edge.due("cancel", x.cancel(0, 5), 1);
        Edge.due("cancel twice", x.cancel(0, 5), 0);
        Edge.due("bookings", x.count(4), 10);
    }

    private static void whereabouts() {
        Edge.sentence(12, "The HALL in which a TURN is booked in a WEEK.");
        int[][] due = {{0, 2, 0}, {0, 5, 1}, {0, 59, 2}, {5, 7, 0}, {2, 5, 1}, {4, 2, 1}};
        for (int[] w : due) {
            BUSY.changesNothing("where(" + w[0] + ", " + w[1] + ")", x -> x.where(w[0], w[1]), w[2]);
        }
        Office x = BUSY.office();
        x.book(3, 0, 59);
        Edge.due("where it is booked since", x.where(3, 59), 0);

        Edge.sentence(12, "NONE: none.");
        int[][] none = {{0, 1}, {0, 3}, {0, 4}, {0, 6}, {0, 58}, {3, 5}, {-1, 5}, {6, 5}, {0, -1}, {0, 60}, {LOW, 5},
            {HIGH, 5}, {0, LOW}, {0, HIGH}};
        for (int[] w : none) {
            BUSY.changesNothing("where(" + w[0] + ", " + w[1] + ")", y -> y.where(w[0], w[1]), -1);
        }
    }

    private static void bill(int hall, int week, int what, int due) {
        BUSY.changesNothing("bill(" + hall + ", " + week + ", " + what + ")", x -> x.bill(hall, week, what), due);
    }

    private static void billsTell() {
        Edge.sentence(13, "Of a bill: TURNS (what 0), MINUTES (1), TAKINGS (2), "
                + "pay of all (3: as known NOW), TOPS (4);");
        int[] gone = {3, 23, 256, 51, 1};
        int[] last = {2, 18, 770, 61, 1};
        int[] without = {0, 0, 133, 0, 0};
        for (int what = 0; what <= 4; what++) {
            bill(0, 2, what, gone[what]);
            bill(2, 59, what, last[what]);
            bill(0, 58, what, without[what]);
        }
        Office x = BUSY.office();
        x.sign(0, 59, 7);
        Edge.due("pay of all, with one signed NOW", x.bill(2, 59, 3), 88);
        x.weeks(1);
        x.signText(1, 59, "pay 900;");
        Edge.due("pay of all, with another signed NOW", x.bill(2, 59, 3), 977);
        x.cancel(1, 59);
        Edge.due("TOPS, one cancelled", x.bill(2, 59, 4), 0);
        x.signText(1, 2, "pay 600;");
        Edge.due("pay of all of a bill gone by, with one signed NOW", x.bill(0, 2, 3), 640);
        x.signText(0, 3, "pay 700;");
        Edge.due("pay of all of a bill gone by, not in force in its WEEK", x.bill(0, 2, 3), 640);
    }

    private static void billsNumbered() {
        Edge.sentence(13, "10 + k its k-th TURN by numbers (k from 0 on).");
        bill(0, 2, 10, 0);
        bill(0, 2, 11, 1);
        bill(0, 2, 12, 2);
        bill(0, 2, 13, -1);
        bill(1, 5, 10, 0);
        bill(1, 5, 11, 2);
        bill(1, 5, 12, -1);
        Office x = new Office();
        x.hall(0, 100, 120);
        for (int i = 0; i < 10; i++) {
            x.turn(3, 0, false, i, 0);
        }
        for (int i = 9; i > 0; i--) {
            x.book(i, 0, 0);
        }
        for (int k = 0; k < 9; k++) {
            Edge.due("the TURN " + k + " of nine", x.bill(0, 0, 10 + k), k + 1);
        }
        Edge.due("the tenth of nine", x.bill(0, 0, 19), -1);
    }

    private static void noSuchBill() {
        Edge.sentence(13, "NONE where there is none such.");
        for (int bad : new int[] {-1, 5, 6, 9, 13, 18, 19, 20, LOW, LOW + 9, HIGH}) {
            bill(0, 2, bad, -1);
        }
        for (int what : new int[] {0, 1, 2, 3, 4, 10}) {
            for (int bad : new int[] {-1, 3, 10, LOW, HIGH}) {
                bill(bad, 2, what, -1);
            }
            for (int bad : new int[] {-1, 60, LOW, HIGH}) {
                bill(0, bad, what, -1);
            }
        }
        bill(0, 0, 0, 0);
        bill(2, 59, 0, 2);
        bill(0, 0, 10, -1);
    }

    /** A bill of TOPS with these DRAWS, in a HALL of so many SEATS. */
    private static void takes(int seats, int due, int... draws) {
        Office x = new Office();
        x.hall(0, seats, 120);
        for (int i = 0; i < draws.length; i++) {
            x.turn(3, 1, false, i, draws[i]);
            x.book(i, 0, 0);
        }
        Edge.due("TAKINGS of " + seats + " SEATS", x.bill(0, 0, 2), due);
        // DRAWS of others than TOPS don't count.
        for (int kind : new int[] {0, 2, 3}) {
            int other = x.turn(3, kind, false, 6 + kind, 99);
            x.book(other, 0, 0);
        }
        Edge.due("TAKINGS with others on it", x.bill(0, 0, 2), due);
        Edge.due("TOPS", x.bill(0, 0, 4), draws.length);
    }

    private static void takings() {
        Edge.sentence(13, "TAKINGS of a bill: SEATS times (40 and the DRAWS of TOPS on it,");
        takes(100, 40);
        takes(100, 40, 0);
        takes(100, 41, 1);
        takes(100, 75, 10, 25);
        takes(1000, 400);
        takes(1000, 990, 20, 20, 10, 9);

        Edge.sentence(13, "100 at most) by 100, cut.");
        takes(100, 99, 59);
        takes(100, 100, 60);
        takes(100, 100, 61);
        takes(100, 100, 99);
        takes(1000, 1000, 99, 99, 99, 99, 99, 99);
        takes(1, 0);
        takes(1, 0, 59);
        takes(1, 1, 60);
        takes(2, 0, 9);
        takes(2, 1, 10);
        takes(3, 1);
        takes(333, 133);
        takes(999, 399);
        takes(999, 989, 59);
    }
}

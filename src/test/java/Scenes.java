/** The states in which refused calls are tried: each has something of all that a call could spoil. */
final class Scenes {
    static final int BUSY_NOW = 5;
    static final int BUSY_TURNS = 6;
    static final int BUSY_HALLS = 3;
    static final int BUSY_BYTES = 40;
    /** TURN 0's WEEKS in the busy office: one that has gone by, NOW, and the last one. */
    static final int GONE_BY = 2;
    static final int LAST_WEEK = 59;

    private Scenes() {
    }

    /** TURNS of all kinds, HALLS, CONTRACTS of several WEEKS, bookings gone by, NOW and to be, a FAULT, a tape. */
    static void busy(Office x) {
        x.turn(10, 0, false, 0, 30);
        x.turn(8, 1, false, 1, 37);
        x.turn(5, 3, false, 2, 10);
        x.turn(7, 2, true, 3, 20);
        x.turn(12, 0, true, 4, 50);
        x.turn(6, 0, false, 0, 50);
        x.hall(0, 333, 60);
        x.hall(100, 200, 40);
        x.hall(250, 1000, 120);
        x.signText(0, 0, "bar 120 weeks 1; pay 40;");
        x.signText(1, 0, "pay 11; place 2; never hall 1;");
        x.signText(4, 6, "apart turn 2; pay 5;");
        x.book(0, 0, GONE_BY);
        x.book(1, 0, GONE_BY);
        x.book(2, 0, GONE_BY);
        x.book(4, 1, GONE_BY);
        x.weeks(3);
        x.signText(0, 4, "pay 50; place 2;");
        x.book(0, 1, BUSY_NOW);
        x.book(3, 1, BUSY_NOW);
        x.book(1, 2, BUSY_NOW);
        x.book(5, 0, 7);
        x.book(2, 0, 12);
        x.book(0, 2, LAST_WEEK);
        x.book(1, 2, LAST_WEEK);
        x.fail(3, BUSY_NOW);
        x.weeks(2);
        x.signText(2, 0, "pay x");
        x.feedText("pay 77; place 1; bar 9 weeks 9; ?");
    }

    /** The busy office, with the tape empty again. */
    static void busyWithoutTape(Office x) {
        busy(x);
        x.signText(2, 0, "pay x");
    }

    static void lastWeek(Office x) {
        busy(x);
        x.weeks(LAST_WEEK - BUSY_NOW);
    }

    static void fortyTurns(Office x) {
        busy(x);
        for (int i = BUSY_TURNS; i < 40; i++) {
            x.turn(3, 0, false, i % 10, i);
        }
    }

    static void tenHalls(Office x) {
        busy(x);
        for (int i = BUSY_HALLS; i < 10; i++) {
            x.hall(i, 1 + i, 20 + i);
        }
    }

    /** 600 bytes: the busy office's 40, and blanks. */
    static void fullTape(Office x) {
        busy(x);
        for (int i = BUSY_BYTES; i < 600; i += 20) {
            x.feedText(" ");
        }
    }

    static void sixtyContracts(Office x) {
        busy(x);
        for (int i = 4; i < 60; i++) {
            x.sign(i % BUSY_TURNS, i, 0);
        }
        x.feedText("pay 77; place 1; bar 9 weeks 9; ?");
    }

    /** Two on the bill of HALL 0 and WEEK 5: one FULL, or both, so that no ORDER there is. */
    static void bookedFull(Office x, boolean both) {
        x.turn(5, 0, true, 0, 0);
        x.turn(6, 1, both, 1, 0);
        x.turn(7, 0, false, 2, 9);
        x.hall(0, 100, 60);
        x.book(0, 0, 5);
        x.book(1, 0, 5);
        x.feedText("pay 1;");
    }

    /** TURNS of three minutes go from hall to hall; all halls lie within ten miles. */
    static void fourHundredBookings(Office x) {
        bookings(x, 400);
    }

    static void bookings(Office x, int wanted) {
        for (int i = 0; i < 40; i++) {
            x.turn(3, 0, false, i % 10, i % 7);
        }
        for (int i = 0; i < 10; i++) {
            x.hall(i, 100, 120);
        }
        int booked = 0;
        for (int week = 0; week < 20 && booked < wanted; week++) {
            for (int h = 0; h < 4 && booked < wanted; h++) {
                booked += x.fill((week + 2 * h) % 10, week, Math.min(9, wanted - booked));
            }
        }
    }
}

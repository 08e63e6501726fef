/** Promises 16 and 17, sentence by sentence: fail with its STAND-IN, fill. */
final class EdgesOfFailures {
    private static final int LOW = Edge.LOW;
    private static final int HIGH = Edge.HIGH;
    private static final Scene BUSY = new Scene(Scenes::busy);

    private EdgesOfFailures() {
    }

    static void all() {
        failing();
        standInBooked();
        standInFree();
        standInNotBarred();
        standInGreatest();
        nobodyStandsIn();
        failRefused();
        filling();
        fillGreatest();
        fillUpTo();
        fillTellsHowMany();
        fillRefused();
    }

    /** TURNS of these DRAWS and ten minutes, none alike up to ten; HALL 0 of 30 minutes, HALL 1 of 120. */
    private static Office office(int... draws) {
        Office x = new Office();
        for (int i = 0; i < draws.length; i++) {
            x.turn(10, 0, false, i % 10, draws[i]);
        }
        x.hall(0, 100, 30);
        x.hall(50, 100, 120);
        return x;
    }

    private static void failing() {
        Edge.sentence(16, "A TURN that FAILS isn't booked there any more;");
        Office x = office(10, 20);
        x.book(0, 0, 5);
        x.book(0, 1, 6);
        Edge.due("fail", x.fail(0, 5), 1);
        Edge.due("where", x.where(0, 5), -1);
        Edge.due("where in another WEEK", x.where(0, 6), 1);
        Edge.due("its bookings", x.turnOf(0, 5), 1);
        Edge.due("FAILED", x.turnOf(0, 6), 1);
        Edge.due("the other one's FAILED", x.turnOf(1, 6), 0);
        Edge.due("bookings", x.count(4), 2);
        Edge.due("it may be booked elsewhere", x.book(0, 1, 5), -1);
        x.cancel(0, 6);
        Edge.due("it may be booked elsewhere", x.book(0, 1, 5), 1);

        Edge.sentence(16, "A TURN FAILS in its HALL in a WEEK (NOW or behind it),");
        x = BUSY.office();
        Edge.due("fail NOW", x.fail(0, 5), 5);
        Edge.due("FAILED", x.turnOf(0, 6), 1);
        Edge.due("fail in the last WEEK", x.fail(1, 59), 4);
        Edge.due("FAILED", x.turnOf(1, 6), 1);
        Edge.due("fail ahead of NOW", x.fail(0, 2), -2);
        x.weeks(54);
        Edge.due("fail NOW, the last WEEK", x.fail(0, 59), 5);
        Edge.due("FAILED", x.turnOf(0, 6), 2);
    }

    private static void standInBooked() {
        Edge.sentence(16, "and its STAND-IN is booked there: it.");
        Office x = office(10, 20, 30);
        x.book(0, 1, 5);
        Edge.due("fail", x.fail(0, 5), 2);
        Edge.due("where the STAND-IN is", x.where(2, 5), 1);
        Edge.due("the bill", x.bill(1, 5, 0), 1);
        Edge.due("its TURN", x.bill(1, 5, 10), 2);
        Edge.due("the STAND-IN's bookings", x.turnOf(2, 5), 1);
        Edge.due("bookings", x.count(4), 1);
        Scene full = new Scene(Scenes::fourHundredBookings);
        x = full.office();
        int hall = x.where(0, 0);
        int standIn = x.fail(0, 0);
        Edge.due("fail with 400 there", standIn >= 0 ? 1 : 0, 1);
        Edge.due("where the STAND-IN is", x.where(standIn, 0), hall);
        Edge.due("bookings", x.count(4), 400);
    }

    private static void standInFree() {
        Edge.sentence(16, "its STAND-IN: of TURNS not booked in that WEEK,");
        Office x = office(10, 50, 40, 30);
        x.book(0, 0, 5);
        x.book(1, 1, 5);
        x.book(2, 1, 4);
        Edge.due("fail with the greatest booked elsewhere", x.fail(0, 5), 2);
        x = office(10, 50, 40);
        x.book(0, 0, 5);
        x.book(1, 0, 5);
        Edge.due("fail with the greatest on that bill", x.fail(0, 5), 2);
        x = office(10, 50);
        x.book(0, 0, 5);
        x.book(1, 1, 6);
        Edge.due("fail with one booked in another WEEK", x.fail(0, 5), 1);

        Edge.sentence(16, "other than it,");
        x = office(99, 0);
        x.book(0, 0, 5);
        Edge.due("fail of the greatest", x.fail(0, 5), 1);
        x = office(99);
        x.book(0, 0, 5);
        Edge.due("fail of the only one", x.fail(0, 5), -1);
        x = office(99, 98);
        x.book(0, 0, 5);
        x.fail(0, 5);
        Edge.due("one that FAILED may stand in for another", x.fail(1, 5), 0);
    }

    private static void standInNotBarred() {
        Edge.sentence(16, "that nothing would bar there,");
        Office x = office(10, 90, 80, 70, 60, 50, 40, 30, 20);
        x.hall(250, 100, 60);
        x.signText(1, 0, "never hall 0;");
        x.book(2, 2, 6);
        x.signText(3, 0, "bar 999 weeks 9;");
        x.book(3, 1, 10);
        x.book(4, 0, 12);
        x.signText(5, 0, "apart turn 7;");
        x.book(7, 0, 5);
        x.book(0, 0, 5);
        Edge.due("fail", x.fail(0, 5), 6);
        x.fail(6, 5);
        Edge.due("never", x.why(1, 0, 5), 4);
        Edge.due("too far", x.why(2, 0, 5), 3);
        Edge.due("bar", x.why(3, 0, 5), 5);
        Edge.due("same HALL", x.why(4, 0, 5), 9);
        Edge.due("apart", x.why(5, 0, 5), 8);
        // What the one that FAILS barred doesn't count any more: its LIKE, its CONTRACT, its MINUTES.
        x = office(10, 20, 30, 1, 2, 3, 4, 5, 6, 7, 99, 98);
        x.signText(0, 0, "apart turn 10; apart turn 11;");
        x.book(0, 0, 5);
        x.book(2, 0, 5);
        x.book(3, 0, 5);
        Edge.due("too long, alike and apart before", x.why(10, 0, 5), 7);
        Edge.due("fail", x.fail(0, 5), 10);
        Edge.due("MINUTES", x.bill(0, 5, 1), 30);
        // Of nine on a bill, there is room for the STAND-IN.
        x = new Office();
        x.hall(0, 100, 120);
        for (int i = 0; i < 10; i++) {
            x.turn(3, 0, false, i, i);
        }
        x.fill(0, 0, 9);
        Edge.due("nine before", x.why(0, 0, 0), 10);
        Edge.due("fail of one of nine", x.fail(5, 0), 0);
        Edge.due("nine behind it", x.bill(0, 0, 0), 9);
    }

    private static void standInGreatest() {
        Edge.sentence(16, "the one with the greatest DRAW,");
        Office x = office(50, 10, 12, 11);
        x.book(0, 0, 5);
        Edge.due("fail", x.fail(0, 5), 2);
        x = office(50, 0, 99);
        x.book(0, 0, 5);
        Edge.due("fail", x.fail(0, 5), 2);
        x = office(50, 0);
        x.book(0, 0, 5);
        Edge.due("fail with a DRAW of 0 left", x.fail(0, 5), 1);

        Edge.sentence(16, "of several the least.");
        x = office(50, 10, 12, 12, 12);
        x.book(0, 0, 5);
        Edge.due("fail", x.fail(0, 5), 2);
        Edge.due("fail of the STAND-IN: the first one is the greatest", x.fail(2, 5), 0);
        x = office(12, 12, 12);
        x.book(2, 0, 5);
        Edge.due("fail of the last of three", x.fail(2, 5), 0);
        Edge.due("fail of the first of three", x.fail(0, 5), 1);
    }

    private static void nobodyStandsIn() {
        Edge.sentence(16, "NONE: it has none (it FAILS all the same);");
        Office x = office(10);
        x.book(0, 0, 5);
        Edge.due("fail", x.fail(0, 5), -1);
        Edge.due("where", x.where(0, 5), -1);
        Edge.due("FAILED", x.turnOf(0, 6), 1);
        Edge.due("bookings", x.count(4), 0);
        Edge.due("the bill", x.bill(0, 5, 0), 0);
        Edge.due("fail again", x.fail(0, 5), -2);
        x = office(10, 20);
        x.signText(1, 0, "never hall 0;");
        x.book(0, 0, 5);
        Edge.due("fail with one barred", x.fail(0, 5), -1);
        Edge.due("FAILED", x.turnOf(0, 6), 1);
        Edge.due("where the other one is", x.where(1, 5), -1);
        x.signText(1, 0, "never hall 1;");
        x.book(0, 0, 5);
        Edge.due("fail with one not barred", x.fail(0, 5), 1);
    }

    private static void failRefused() {
        Edge.sentence(16, "-2, doing nothing: it isn't booked.");
        Edge.due("fail of one booked", BUSY.office().fail(0, 5), 5);
        int[][] none = {{0, 4}, {0, 6}, {0, 58}, {3, 5}, {5, 5}, {-1, 5}, {6, 5}, {40, 5}, {0, -1}, {0, 60}, {LOW, 5},
            {HIGH, 5}, {0, LOW}, {0, HIGH}};
        for (int[] f : none) {
            BUSY.changesNothing("fail(" + f[0] + ", " + f[1] + ")", x -> x.fail(f[0], f[1]), -2);
        }
        Edge.due("one booked in a WEEK ahead of NOW", BUSY.office().where(0, Scenes.GONE_BY), 0);
        BUSY.changesNothing("fail ahead of NOW", x -> x.fail(0, Scenes.GONE_BY), -2);
        Scene next = new Scene(x -> {
            Scenes.busy(x);
            x.weeks(1);
        });
        next.changesNothing("fail in the WEEK ahead of NOW", x -> x.fail(0, 5), -2);
    }

    private static void filling() {
        Edge.sentence(17, "Bookings for a bill one by one,");
        // 0 and 1 are apart: the first booking bars the second.
        Office x = office(90, 80, 70, 60);
        x.signText(0, 0, "apart turn 1;");
        Edge.due("fill up to 2", x.fill(1, 5, 2), 2);
        Edge.due("the first", x.where(0, 5), 1);
        Edge.due("the one that the first bars", x.where(1, 5), -1);
        Edge.due("the second", x.where(2, 5), 1);
        Edge.due("bookings", x.count(4), 2);
        Edge.due("its bookings", x.turnOf(2, 5), 1);
        x = office(90, 80, 70, 60);
        Edge.due("fill up to the MINUTES", x.fill(0, 5, 9), 3);
        Edge.due("the one too long", x.where(3, 5), -1);
        Edge.due("MINUTES", x.bill(0, 5, 1), 30);
    }

    private static void fillGreatest() {
        Edge.sentence(17, "each time of the TURN that nothing bars with the greatest DRAW (of several the least),");
        Office x = office(10, 50, 30, 50, 20);
        Edge.due("fill up to 1", x.fill(1, 5, 1), 1);
        Edge.due("the least of the greatest", x.where(1, 5), 1);
        Edge.due("fill up to 2", x.fill(1, 5, 2), 2);
        Edge.due("the other one", x.where(3, 5), 1);
        Edge.due("fill up to 3", x.fill(1, 5, 3), 3);
        Edge.due("the next", x.where(2, 5), 1);
        Edge.due("those left", x.where(0, 5) + x.where(4, 5), -2);
        x = office(10, 50, 30, 50, 20);
        x.signText(1, 0, "never hall 1;");
        x.book(3, 0, 5);
        Edge.due("fill with the greatest barred", x.fill(1, 5, 1), 1);
        Edge.due("the greatest that nothing bars", x.where(2, 5), 1);
        x = office(0, 0);
        Edge.due("fill with DRAWS of 0", x.fill(1, 5, 1), 1);
        Edge.due("the least", x.where(0, 5), 1);
    }

    private static void fillUpTo() {
        Edge.sentence(17, "till it has n (0 to 9) or none is left:");
        Office x = new Office();
        x.hall(0, 100, 120);
        x.hall(0, 100, 120);
        for (int i = 0; i < 10; i++) {
            x.turn(3, 0, false, i, i);
        }
        Edge.due("fill up to 0", x.fill(0, 0, 0), 0);
        Edge.due("bookings", x.count(4), 0);
        Edge.due("fill up to 1", x.fill(0, 0, 1), 1);
        Edge.due("fill up to 8", x.fill(0, 0, 8), 8);
        Edge.due("bookings", x.count(4), 8);
        Edge.due("fill up to 9", x.fill(0, 0, 9), 9);
        Edge.due("fill with one left", x.fill(1, 0, 9), 1);
        Edge.due("fill with none left", x.fill(1, 0, 9), 1);
        Edge.due("bookings", x.count(4), 10);
        x = new Office();
        x.hall(0, 100, 120);
        Edge.due("fill without TURNS", x.fill(0, 0, 9), 0);
        new Scene(Scenes::fourHundredBookings).changesNothing("fill with 400 there", y -> y.fill(0, 40, 9), 0);
        x = new Office();
        Scenes.bookings(x, 395);
        Edge.due("fill with 395 there", x.fill(0, 40, 9), 5);
        Edge.due("bookings", x.count(4), 400);
        Edge.due("where none is left", x.fill(1, 41, 1), 0);
    }

    private static void fillTellsHowMany() {
        Edge.sentence(17, "how many it has.");
        BUSY.changesNothing("fill up to fewer than it has", x -> x.fill(1, 5, 1), 2);
        BUSY.changesNothing("fill up to as many as it has", x -> x.fill(1, 5, 2), 2);
        BUSY.changesNothing("fill up to 0", x -> x.fill(1, 5, 0), 2);
        BUSY.changesNothing("fill of an empty one up to 0", x -> x.fill(0, 59, 0), 0);
        Office x = BUSY.office();
        Edge.due("fill up to one more", x.fill(1, 5, 3), 3);
        Edge.due("bookings", x.count(4), 12);
    }

    private static void fillRefused() {
        Edge.sentence(17, "NONE, doing nothing: no such HALL, WEEK (NOW or behind it), n.");
        Edge.due("fill NOW", BUSY.office().fill(0, 5, 9), 2);
        Edge.due("fill in the last WEEK", BUSY.office().fill(2, 59, 9), 4);
        for (int bad : new int[] {-1, 3, 10, LOW, HIGH}) {
            BUSY.changesNothing("fill(" + bad + ", 5, 9)", x -> x.fill(bad, 5, 9), -1);
        }
        for (int bad : new int[] {4, 2, 0, -1, 60, LOW, HIGH}) {
            BUSY.changesNothing("fill(0, " + bad + ", 9)", x -> x.fill(0, bad, 9), -1);
        }
        for (int bad : new int[] {-1, 10, LOW, HIGH}) {
            BUSY.changesNothing("fill(0, 5, " + bad + ")", x -> x.fill(0, 5, bad), -1);
        }
        BUSY.changesNothing("fill(0, 2, 0), gone by", x -> x.fill(0, 2, 0), -1);
        BUSY.changesNothing("fill(3, 5, 0)", x -> x.fill(3, 5, 0), -1);
    }
}

import java.util.function.ToIntFunction;

/** Promises 1 to 4, 19 and 20, sentence by sentence: a new object, weeks, turn, hall, turnOf, count. */
final class EdgesOfLists {
    private static final int LOW = Edge.LOW;
    private static final int HIGH = Edge.HIGH;
    private static final Scene BUSY = new Scene(Scenes::busy);

    private EdgesOfLists() {
    }

    static void all() {
        newObject();
        lastCalls();
        weeksGoOn();
        weeksRefused();
        turnsAsTold();
        turnsRefused();
        fortyTurns();
        hallsAsTold();
        hallsRefused();
        tenHalls();
        turnsTell();
        countsTell();
    }

    private static void newObject() {
        Edge.sentence(1, "No TURNS, HALLS, CONTRACTS.");
        Office used = BUSY.office();
        Office x = new Office();
        Edge.due("another object has TURNS of its own", used.count(1), 6);
        for (int what = 0; what <= 5; what++) {
            Edge.due("count(" + what + ")", x.count(what), 0);
        }
        Edge.due("turnOf(0, 0)", x.turnOf(0, 0), -1);
        Edge.due("bill(0, 0, 0)", x.bill(0, 0, 0), -1);
        Edge.due("force(0, 0, 0)", x.force(0, 0, 0), -1);
        Edge.due("fault()", x.fault(), -1);
        Edge.due("why(0, 0, 0)", x.why(0, 0, 0), 1);
        Edge.due("sign(0, 0, 0)", x.sign(0, 0, 0), -2);
        Edge.due("book(0, 0, 0)", x.book(0, 0, 0), -1);
        Edge.due("fail(0, 0)", x.fail(0, 0), -2);
        Edge.due("fill(0, 0, 0)", x.fill(0, 0, 0), -1);
        Edge.due("the first TURN", x.turn(3, 0, false, 0, 0), 0);
        Edge.due("the first HALL", x.hall(0, 1, 20), 0);
        Edge.due("the first CONTRACT", x.sign(0, 0, 0), 0);

        Edge.sentence(1, "NOW is 0 at first.");
        Edge.due("NOW", new Office().count(0), 0);
        Edge.due("WEEK 0 may be booked", x.book(0, 0, 0), 1);
        Edge.due("a WEEK ahead of it", x.why(0, 0, -1), 1);

        Edge.sentence(1, "The constants: `NONE = -1`: There is none.");
        Edge.due("NONE", VarietyCircuit.NONE, -1);
    }

    private static Office withOneCallLeft() {
        Office x = BUSY.office();
        while (x.callsLeft() > 1) {
            // Such a call takes the longest, and the most that is kept for all calls.
            x.order(0, 2, 0);
        }
        return x;
    }

    private static void lastCalls() {
        Edge.sentence(1, "An object is used for at most 512 calls after it has been made; "
                + "what later calls answer is free.");
        Edge.due("count, the 512th", withOneCallLeft().count(4), 11);
        Edge.due("order, the 512th", withOneCallLeft().order(0, 2, 2), 2);
        Edge.due("book, the 512th", withOneCallLeft().book(3, 0, 5), 1);
        Edge.due("sign, the 512th", withOneCallLeft().sign(0, 0, 7), 4);
        Edge.due("fail, the 512th", withOneCallLeft().fail(0, 5), 5);
        Edge.due("fill, the 512th", withOneCallLeft().fill(2, 59, 9), 4);
    }

    private static void weeksGoOn() {
        Edge.sentence(2, "NOW goes on by n WEEKS: it.");
        Office x = BUSY.office();
        Edge.due("weeks(1) in 5", x.weeks(1), 6);
        Edge.due("NOW", x.count(0), 6);
        Edge.due("weeks(4) in 6", x.weeks(4), 10);
        Edge.due("NOW", x.count(0), 10);
        Edge.due("NOW may be booked", x.why(3, 0, 10), 0);
        Edge.due("the WEEK ahead may not", x.why(3, 0, 9), 1);
        Edge.due("bookings that went by stay", x.where(0, 5), 1);

        Edge.sentence(2, "WEEKS 0 to 59;");
        x = BUSY.office();
        Edge.due("weeks(54) in 5", x.weeks(54), 59);
        Edge.due("NOW may be booked", x.why(3, 0, 59), 0);
        Edge.due("behind it there is none", x.why(3, 0, 60), 1);
        Edge.due("59 at once", new Office().weeks(59), 59);
    }

    private static void weeksRefused() {
        Edge.sentence(2, "NONE, doing nothing: n is below 1,");
        Edge.due("weeks(1)", BUSY.office().weeks(1), 6);
        for (int n : new int[] {0, -1, -5, -6, LOW, LOW + 1}) {
            BUSY.changesNothing("weeks(" + n + ")", x -> x.weeks(n), -1);
        }

        Edge.sentence(2, "or it would be above 59.");
        Edge.due("weeks(54) in 5", BUSY.office().weeks(54), 59);
        for (int n : new int[] {55, 56, 59, 60, HIGH, HIGH - 4, HIGH - 5}) {
            BUSY.changesNothing("weeks(" + n + ") in 5", x -> x.weeks(n), -1);
        }
        Scene last = new Scene(Scenes::lastWeek);
        Edge.due("NOW", last.office().count(0), 59);
        for (int n : new int[] {1, 2, HIGH, HIGH - 58, HIGH - 59, 0}) {
            last.changesNothing("weeks(" + n + ") in 59", x -> x.weeks(n), -1);
        }
        Edge.due("weeks(60) in 0", new Office().weeks(60), -1);
    }

    /** A TURN that is as told is the busy office's next one and tells what it was told. */
    private static void takes(int minutes, int kind, boolean full, int like, int draw) {
        Office x = BUSY.office();
        Edge.due("turn", x.turn(minutes, kind, full, like, draw), Scenes.BUSY_TURNS);
        int[] told = {minutes, kind, full ? 1 : 0, like, draw, 0, 0};
        for (int what = 0; what < told.length; what++) {
            Edge.due("turnOf its " + what, x.turnOf(Scenes.BUSY_TURNS, what), told[what]);
        }
        Edge.due("TURNS", x.count(1), Scenes.BUSY_TURNS + 1);
    }

    private static void refusesTurn(int minutes, int kind, boolean full, int like, int draw) {
        BUSY.changesNothing("turn(" + minutes + ", " + kind + ", " + full + ", " + like + ", " + draw + ")",
                x -> x.turn(minutes, kind, full, like, draw), -1);
    }

    private static void turnsAsTold() {
        Edge.sentence(3, "A TURN: its number.");
        Office x = new Office();
        for (int i = 0; i < 3; i++) {
            Edge.due("turn", x.turn(3 + i, 0, false, i, i), i);
            Edge.due("MINUTES of each", x.turnOf(0, 0) + x.turnOf(i, 0), 6 + i);
        }
        takes(11, 1, true, 5, 55);

        Edge.sentence(3, "MINUTES 3 to 20,");
        takes(3, 0, false, 0, 0);
        takes(20, 0, false, 0, 0);
        for (int minutes : new int[] {2, 21, 0, -3, LOW, HIGH}) {
            refusesTurn(minutes, 0, false, 0, 0);
        }

        Edge.sentence(3, "a KIND (0 plain, 1 TOP, 2 DUMB, 3 FRONT),");
        for (int kind = 0; kind <= 3; kind++) {
            takes(5, kind, false, 1, 1);
        }
        for (int kind : new int[] {-1, 4, LOW, HIGH}) {
            refusesTurn(5, kind, false, 1, 1);
        }

        Edge.sentence(3, "FULL (it needs all of the stage; a FRONT never does),");
        for (int kind = 0; kind <= 2; kind++) {
            takes(5, kind, true, 1, 1);
        }
        takes(5, 3, false, 1, 1);
        refusesTurn(5, 3, true, 1, 1);
    }

    private static void turnsRefused() {
        Edge.sentence(3, "a LIKE 0 to 9,");
        takes(5, 0, false, 0, 1);
        takes(5, 0, false, 9, 1);
        for (int like : new int[] {-1, 10, LOW, HIGH}) {
            refusesTurn(5, 0, false, like, 1);
        }

        Edge.sentence(3, "a DRAW 0 to 99.");
        takes(5, 0, false, 1, 0);
        takes(5, 0, false, 1, 99);
        for (int draw : new int[] {-1, 100, LOW, HIGH}) {
            refusesTurn(5, 0, false, 1, draw);
        }

        Edge.sentence(3, "NONE, doing nothing: not as told (a FRONT that is FULL, too),");
        takes(20, 3, false, 9, 99);
        refusesTurn(20, 3, true, 9, 99);
        refusesTurn(2, 4, true, 10, 100);
        refusesTurn(LOW, LOW, true, LOW, LOW);
    }

    private static void fortyTurns() {
        Edge.sentence(3, "TURNS, up to 40:");
        Office x = BUSY.office();
        for (int i = Scenes.BUSY_TURNS; i < 40; i++) {
            Edge.due("turn " + i, x.turn(3, 0, false, 0, 0), i);
        }
        Edge.due("the 41st", x.turn(3, 0, false, 0, 0), -1);
        Edge.due("TURNS", x.count(1), 40);

        Edge.sentence(3, "40 are there.");
        Scene forty = new Scene(Scenes::fortyTurns);
        Edge.due("TURNS", forty.office().count(1), 40);
        forty.changesNothing("the 41st", y -> y.turn(3, 0, false, 0, 0), -1);
        forty.changesNothing("the 41st, not as told", y -> y.turn(2, 0, false, 0, 0), -1);
    }

    private static void takesHall(int mile, int seats, int minutes) {
        Office x = BUSY.office();
        Edge.due("hall", x.hall(mile, seats, minutes), Scenes.BUSY_HALLS);
        Edge.due("HALLS", x.count(2), Scenes.BUSY_HALLS + 1);
        Edge.due("its TAKINGS tell its SEATS", x.bill(Scenes.BUSY_HALLS, 0, 2), seats * 40 / 100);
    }

    private static void refusesHall(int mile, int seats, int minutes) {
        BUSY.changesNothing("hall(" + mile + ", " + seats + ", " + minutes + ")",
                x -> x.hall(mile, seats, minutes), -1);
    }

    private static void hallsAsTold() {
        Edge.sentence(4, "A HALL: its number.");
        Office x = new Office();
        for (int i = 0; i < 3; i++) {
            Edge.due("hall", x.hall(i, 100 * (i + 1), 20), i);
            Edge.due("TAKINGS of the first", x.bill(0, 0, 2), 40);
            Edge.due("TAKINGS of it", x.bill(i, 0, 2), 40 * (i + 1));
        }

        Edge.sentence(4, "a mile 0 to 300 on one line,");
        takesHall(0, 100, 60);
        takesHall(300, 100, 60);
        for (int mile : new int[] {-1, 301, LOW, HIGH}) {
            refusesHall(mile, 100, 60);
        }
        x = new Office();
        x.turn(3, 0, false, 0, 0);
        x.hall(0, 1, 20);
        x.hall(300, 1, 20);
        x.hall(150, 1, 20);
        x.book(0, 1, 1);
        Edge.due("from mile 300 to mile 0", x.why(0, 0, 2), 3);
        Edge.due("from mile 300 to mile 150", x.why(0, 2, 2), 0);
    }

    private static void hallsRefused() {
        Edge.sentence(4, "SEATS 1 to 1,000,");
        takesHall(5, 1, 60);
        takesHall(5, 1000, 60);
        for (int seats : new int[] {0, 1001, -1, LOW, HIGH}) {
            refusesHall(5, seats, 60);
        }

        Edge.sentence(4, "MINUTES of a bill at most (20 to 120).");
        takesHall(5, 100, 20);
        takesHall(5, 100, 120);
        for (int minutes : new int[] {19, 121, 0, -20, LOW, HIGH}) {
            refusesHall(5, 100, minutes);
        }
        minutesHold(20, 20, 1, 1);
        minutesHold(120, 20, 6, 6);
        minutesHold(119, 20, 6, 5);

        Edge.sentence(4, "NONE, doing nothing: not as told,");
        takesHall(300, 1000, 120);
        refusesHall(301, 1001, 121);
        refusesHall(LOW, LOW, LOW);
        refusesHall(HIGH, HIGH, HIGH);
    }

    /** As many TURNS of so many minutes as there are find room in a HALL of these. */
    private static void minutesHold(int ofHall, int ofTurn, int turns, int held) {
        Office x = new Office();
        x.hall(0, 1, ofHall);
        for (int i = 0; i < turns; i++) {
            x.turn(ofTurn, 0, false, i, 0);
        }
        Edge.due("fill of a HALL of " + ofHall, x.fill(0, 0, 9), held);
    }

    private static void tenHalls() {
        Edge.sentence(4, "HALLS, up to 10:");
        Office x = BUSY.office();
        for (int i = Scenes.BUSY_HALLS; i < 10; i++) {
            Edge.due("hall " + i, x.hall(0, 100, 20), i);
        }
        Edge.due("the 11th", x.hall(0, 100, 20), -1);
        Edge.due("HALLS", x.count(2), 10);

        Edge.sentence(4, "10 are there.");
        Scene ten = new Scene(Scenes::tenHalls);
        Edge.due("HALLS", ten.office().count(2), 10);
        ten.changesNothing("the 11th", y -> y.hall(0, 100, 20), -1);
        ten.changesNothing("the 11th, not as told", y -> y.hall(-1, 100, 20), -1);
    }

    private static void answers(String call, ToIntFunction<Office> asked, int want) {
        BUSY.changesNothing(call, asked, want);
    }

    private static void turnsTell() {
        Edge.sentence(19, "Of a TURN: 0 MINUTES, 1 KIND, 2 FULL (1), 3 LIKE, "
                + "4 DRAW, 5 bookings, 6 how often it FAILED.");
        int[] third = {7, 2, 1, 3, 20, 0, 1};
        int[] first = {10, 0, 0, 0, 30, 3, 0};
        for (int i = 0; i <= 6; i++) {
            int what = i;
            answers("turnOf(3, " + what + ")", x -> x.turnOf(3, what), third[what]);
            answers("turnOf(0, " + what + ")", x -> x.turnOf(0, what), first[what]);
        }
        Office x = BUSY.office();
        x.cancel(0, 59);
        Edge.due("bookings, one cancelled", x.turnOf(0, 5), 2);
        Edge.due("FAILED", x.turnOf(0, 6), 0);
        x.fail(0, 5);
        Edge.due("bookings, one FAILED", x.turnOf(0, 5), 1);
        Edge.due("FAILED", x.turnOf(0, 6), 1);
        x.book(3, 2, 5);
        x.fail(3, 5);
        Edge.due("FAILED twice", x.turnOf(3, 6), 2);

        Edge.sentence(19, "NONE where there is none such.");
        for (int bad : new int[] {-1, 7, LOW, HIGH}) {
            answers("turnOf(0, " + bad + ")", y -> y.turnOf(0, bad), -1);
        }
        answers("turnOf(5, 0), the last TURN", y -> y.turnOf(5, 0), 6);
        for (int bad : new int[] {-1, 6, 40, LOW, HIGH}) {
            answers("turnOf(" + bad + ", 0)", y -> y.turnOf(bad, 0), -1);
        }
        Scene forty = new Scene(Scenes::fortyTurns);
        forty.changesNothing("turnOf(39, 0)", y -> y.turnOf(39, 0), 3);
        forty.changesNothing("turnOf(40, 0)", y -> y.turnOf(40, 0), -1);
    }

    private static void countsTell() {
        Edge.sentence(20, "0 NOW, 1 TURNS, 2 HALLS, 3 CONTRACTS, 4 bookings, 5 bytes on the tape.");
        int[] due = {5, 6, 3, 4, 11, 40};
        for (int i = 0; i <= 5; i++) {
            int what = i;
            answers("count(" + what + ")", x -> x.count(what), due[what]);
        }
        countsGoOn();

        Edge.sentence(20, "NONE for others.");
        for (int bad : new int[] {-1, 6, LOW, HIGH}) {
            answers("count(" + bad + ")", x -> x.count(bad), -1);
        }
    }

    private static void countsGoOn() {
        Office x = BUSY.office();
        x.weeks(2);
        x.turn(3, 0, false, 0, 0);
        x.hall(0, 1, 20);
        x.sign(0, 0, 7);
        Edge.due("bytes, signed", x.count(5), 0);
        x.feed(0, 0, 0, 0, 0);
        x.book(3, 0, 59);
        int[] due = {7, 7, 4, 5, 12, 20};
        for (int what = 0; what <= 5; what++) {
            Edge.due("count(" + what + ") later", x.count(what), due[what]);
        }
        x.cancel(3, 59);
        Edge.due("bookings, one cancelled", x.count(4), 11);
        x.sign(0, 0, 20);
        Edge.due("CONTRACTS behind a FAULT", x.count(3), 5);
        Edge.due("bytes behind a FAULT", x.count(5), 0);
    }
}

/** Promise 9 and part 2 of the Terms, sentence by sentence: why, and each of the eleven that may bar a booking. */
final class EdgesOfBars {
    private static final int LOW = Edge.LOW;
    private static final int HIGH = Edge.HIGH;
    private static final Scene BUSY = new Scene(Scenes::busy);

    private EdgesOfBars() {
    }

    static void all() {
        whyTells();
        theFirstOfThese();
        notAsTold();
        booked();
        tooFar();
        never();
        barsOfContracts();
        barByItsOwn();
        barByAnotherWeeks();
        alike();
        apartTexts();
        apartOnBill();
        sameHall();
        nineOnTheBill();
        minutes();
    }

    /** Five TURNS, none alike, and HALLS at miles 0, 100, 150, 151 and 300. */
    private static Office office() {
        Office x = new Office();
        for (int i = 0; i < 5; i++) {
            x.turn(5, 0, false, i, 10 * i);
        }
        for (int mile : new int[] {0, 100, 150, 151, 300}) {
            x.hall(mile, 100, 60);
        }
        return x;
    }

    private static void why(Office x, int turn, int hall, int week, int due) {
        Edge.due("why(" + turn + ", " + hall + ", " + week + ")", x.why(turn, hall, week), due);
        if (due != 0) {
            Edge.due("book(" + turn + ", " + hall + ", " + week + ")", x.book(turn, hall, week), -1);
        }
    }

    private static void whyTells() {
        Edge.sentence(9, "What would bar a booking (1 to 11); 0: nothing.");
        BUSY.changesNothing("why, nothing", x -> x.why(3, 0, 5), 0);
        BUSY.changesNothing("why, ahead of NOW", x -> x.why(3, 0, 4), 1);
        BUSY.changesNothing("why, booked", x -> x.why(0, 0, 5), 2);
        BUSY.changesNothing("why, too far", x -> x.why(0, 0, 58), 3);
        BUSY.changesNothing("why, never", x -> x.why(1, 1, 30), 4);
        BUSY.changesNothing("why, alike", x -> x.why(0, 0, 7), 7);
        BUSY.changesNothing("why, apart", x -> x.why(4, 0, 12), 8);
        BUSY.changesNothing("why, same HALL", x -> x.why(5, 0, 14), 9);

        Edge.sentence(9, "==== 2. BOOKINGS, each a TURN in a HALL and WEEK (NOW or behind it).");
        Office x = BUSY.office();
        why(x, 3, 0, 4, 1);
        why(x, 3, 0, 5, 0);
        Edge.due("book NOW", x.book(3, 0, 5), 1);
        Edge.due("book behind it", x.book(3, 1, 6), 1);
        Edge.due("book in the last WEEK", x.book(3, 0, 59), 1);
        Edge.due("book behind that", x.book(3, 0, 60), -1);
    }

    /** All that may bar TURN 0 in HALL 0 and WEEK 20 does so, and goes away one by one. */
    private static Office allAtOnce() {
        Office x = new Office();
        x.turn(20, 0, false, 0, 0);
        x.turn(3, 0, false, 0, 0);
        for (int i = 1; i <= 7; i++) {
            x.turn(12, 0, false, i, 0);
        }
        x.turn(3, 0, false, 8, 0);
        x.turn(3, 0, false, 9, 0);
        x.hall(0, 100, 95);
        x.hall(100, 100, 95);
        x.hall(200, 100, 95);
        x.book(0, 1, 20);
        x.book(0, 2, 21);
        x.book(0, 0, 15);
        for (int i = 1; i <= 9; i++) {
            Edge.due("on the bill", x.book(i, 0, 20), i);
        }
        x.signText(0, 20, "never hall 0; bar 999 weeks 30; apart turn 5;");
        x.signText(0, 10, "bar 1 weeks 5;");
        return x;
    }

    private static void theFirstOfThese() {
        Edge.sentence(9, "What may bar one, the first of these:");
        Office x = allAtOnce();
        x.weeks(21);
        why(x, 0, 0, 20, 1);
        x = allAtOnce();
        why(x, 0, 0, 20, 2);
        x.cancel(0, 20);
        why(x, 0, 0, 20, 3);
        x.cancel(0, 21);
        why(x, 0, 0, 20, 4);
        x.signText(0, 20, "bar 999 weeks 30; apart turn 5;");
        why(x, 0, 0, 20, 5);
        x.signText(0, 20, "apart turn 5;");
        why(x, 0, 0, 20, 6);
        x.signText(0, 10, "");
        why(x, 0, 0, 20, 7);
        x.cancel(1, 20);
        Edge.due("nine on the bill again", x.book(10, 0, 20), 9);
        why(x, 0, 0, 20, 8);
        x.signText(0, 20, "");
        why(x, 0, 0, 20, 9);
        x.cancel(0, 15);
        why(x, 0, 0, 20, 10);
        x.cancel(10, 20);
        why(x, 0, 0, 20, 11);
        x.cancel(2, 20);
        Edge.due("MINUTES of the others", x.bill(0, 20, 1), 75);
        why(x, 0, 0, 20, 0);
        Edge.due("book", x.book(0, 0, 20), 8);
    }

    private static void notAsTold() {
        Edge.sentence(9, "1 not as told (none such, a WEEK ahead of NOW or above 59);");
        Office x = office();
        why(x, 0, 0, 0, 0);
        why(x, 4, 4, 59, 0);
        for (int bad : new int[] {-1, 5, 10, 40, LOW, HIGH}) {
            why(x, bad, 0, 0, 1);
            why(x, 0, bad, 0, 1);
        }
        for (int bad : new int[] {-1, 60, LOW, HIGH}) {
            why(x, 0, 0, bad, 1);
        }
        x.weeks(7);
        why(x, 0, 0, 6, 1);
        why(x, 0, 0, 0, 1);
        why(x, 0, 0, 7, 0);
        x.weeks(52);
        why(x, 0, 0, 58, 1);
        why(x, 0, 0, 59, 0);
        why(x, 0, 0, 60, 1);
    }

    private static void booked() {
        Edge.sentence(9, "2 the TURN is booked in that WEEK;");
        Office x = office();
        x.book(0, 0, 10);
        why(x, 0, 0, 10, 2);
        why(x, 0, 1, 10, 2);
        why(x, 0, 4, 10, 2);
        why(x, 0, 1, 9, 0);
        why(x, 0, 1, 11, 0);
        why(x, 1, 0, 10, 0);
        x.cancel(0, 10);
        why(x, 0, 1, 10, 0);
        x.book(0, 0, 0);
        why(x, 0, 1, 0, 2);
        x.book(0, 0, 59);
        why(x, 0, 1, 59, 2);
    }

    private static void tooFar() {
        Edge.sentence(9, "3 more than 150 miles from where it's booked in the WEEK ahead, or behind;");
        Office x = office();
        x.book(0, 0, 10);
        for (int week : new int[] {9, 11}) {
            why(x, 0, 2, week, 0);
            why(x, 0, 3, week, 3);
            why(x, 0, 4, week, 3);
        }
        why(x, 0, 3, 8, 0);
        why(x, 0, 3, 12, 0);
        why(x, 1, 3, 9, 0);
        // From the other side of the line, and at both ends of the WEEKS.
        x.book(1, 3, 1);
        why(x, 1, 0, 0, 3);
        why(x, 1, 1, 0, 0);
        x.book(1, 3, 59);
        why(x, 1, 0, 58, 3);
        x.book(2, 3, 0);
        why(x, 2, 0, 1, 3);
        x.book(2, 4, 58);
        why(x, 2, 2, 59, 0);
        why(x, 2, 1, 59, 3);
        // A booking that has gone by counts, too.
        x.weeks(11);
        why(x, 0, 3, 11, 3);
        why(x, 0, 2, 11, 0);
    }

    private static void never() {
        Edge.sentence(9, "4 its own CONTRACT (in force in that WEEK as known NOW): \"never\" of that HALL;");
        Office x = office();
        x.signText(0, 10, "never hall 1; never hall 0; never hall 5;");
        why(x, 0, 0, 9, 0);
        why(x, 0, 0, 10, 4);
        why(x, 0, 1, 10, 4);
        why(x, 0, 2, 10, 0);
        why(x, 1, 0, 10, 0);
        why(x, 0, 0, 59, 4);
        x.signText(0, 20, "pay 1;");
        why(x, 0, 0, 19, 4);
        why(x, 0, 0, 20, 0);
        Edge.due("a HALL that comes later", x.hall(0, 100, 60), 5);
        why(x, 0, 5, 10, 4);
        x.weeks(5);
        x.signText(1, 0, "never hall 0;");
        why(x, 1, 0, 5, 4);
        // "never" is of a HALL: no other number counts.
        x.signText(2, 0, "apart like 0; apart turn 0; pay 0; place 0; bar 0 weeks 0;");
        why(x, 2, 0, 5, 0);
    }

    private static void barsOfContracts() {
        Edge.sentence(9, "\"bar m weeks n\" bars a booking that is less than m miles");
        Office x = office();
        x.book(0, 0, 10);
        x.signText(0, 0, "bar 100 weeks 1;");
        why(x, 0, 1, 11, 0);
        x.signText(0, 0, "bar 101 weeks 1;");
        why(x, 0, 1, 11, 5);
        why(x, 0, 1, 9, 5);
        x.signText(0, 0, "bar 0 weeks 1;");
        why(x, 0, 0, 11, 9);
        x.signText(0, 0, "bar 1 weeks 1;");
        why(x, 0, 0, 11, 5);
        x.signText(0, 0, "bar 300 weeks 5;");
        why(x, 0, 4, 12, 0);
        x.signText(0, 0, "bar 301 weeks 5;");
        why(x, 0, 4, 12, 5);

        Edge.sentence(9, "from another one of the same TURN in a WEEK that is n away at most.");
        x = office();
        x.book(0, 0, 10);
        x.book(1, 0, 10);
        x.signText(0, 0, "bar 999 weeks 3;");
        why(x, 0, 1, 6, 0);
        why(x, 0, 1, 7, 5);
        why(x, 0, 1, 13, 5);
        why(x, 0, 1, 14, 0);
        why(x, 1, 1, 13, 0);
        x.signText(0, 0, "bar 999 weeks 0;");
        why(x, 0, 1, 11, 0);
        x.signText(0, 0, "bar 999 weeks 48;");
        why(x, 0, 1, 58, 5);
        why(x, 0, 1, 59, 0);
        x.signText(0, 0, "bar 999 weeks 999;");
        why(x, 0, 1, 59, 5);
        why(x, 0, 1, 0, 5);
        x.signText(0, 0, "bar 999 weeks 1; bar 100 weeks 5; bar 101 weeks 2;");
        why(x, 0, 4, 12, 0);
        why(x, 0, 1, 12, 5);
        why(x, 0, 1, 13, 0);
        why(x, 0, 0, 15, 5);
        why(x, 0, 0, 16, 9);
    }

    private static void barByItsOwn() {
        Edge.sentence(9, "5 \"bar\" by another booking of its;");
        Office x = office();
        x.book(0, 0, 10);
        x.signText(0, 11, "bar 101 weeks 5;");
        why(x, 0, 1, 12, 5);
        why(x, 0, 1, 11, 5);
        why(x, 0, 1, 9, 0);
        x.weeks(12);
        why(x, 0, 1, 13, 5);
        x.book(1, 0, 59);
        x.signText(1, 0, "bar 999 weeks 2;");
        why(x, 1, 1, 57, 5);
        why(x, 1, 1, 56, 0);
        x = office();
        x.book(0, 0, 0);
        x.signText(0, 1, "bar 999 weeks 2;");
        why(x, 0, 1, 2, 5);
        why(x, 0, 1, 3, 0);
        x.cancel(0, 0);
        why(x, 0, 1, 2, 0);
    }

    private static void barByAnotherWeeks() {
        Edge.sentence(9, "6 \"bar\" by the CONTRACT in force in another booking's WEEK;");
        Office x = office();
        x.book(0, 0, 10);
        x.signText(0, 10, "bar 101 weeks 2;");
        why(x, 0, 1, 7, 0);
        why(x, 0, 1, 8, 6);
        why(x, 0, 1, 9, 6);
        why(x, 0, 2, 9, 0);
        x.signText(0, 11, "pay 1;");
        why(x, 0, 1, 11, 6);
        why(x, 0, 1, 12, 6);
        why(x, 0, 1, 13, 0);
        why(x, 1, 1, 11, 0);
        x.weeks(3);
        x.signText(0, 10, "bar 100 weeks 2;");
        why(x, 0, 1, 11, 0);
        x.cancel(0, 10);
        why(x, 0, 0, 11, 0);
        // At both ends of the WEEKS.
        x = office();
        x.book(0, 0, 0);
        x.signText(0, 0, "bar 999 weeks 2;");
        x.signText(0, 1, "");
        why(x, 0, 1, 2, 6);
        why(x, 0, 1, 3, 0);
        x.book(1, 0, 59);
        x.signText(1, 59, "bar 999 weeks 2;");
        why(x, 1, 1, 57, 6);
        why(x, 1, 1, 56, 0);
        // The CONTRACT of a WEEK counts for that WEEK's booking alone.
        x = office();
        x.book(0, 0, 10);
        x.book(0, 0, 30);
        x.signText(0, 30, "bar 999 weeks 10;");
        why(x, 0, 1, 12, 0);
        why(x, 0, 1, 19, 0);
        why(x, 0, 1, 20, 6);
    }

    private static void alike() {
        Edge.sentence(9, "7 another TURN of its LIKE is on that bill;");
        Office x = office();
        x.turn(5, 1, true, 0, 7);
        x.turn(5, 1, true, 9, 7);
        x.turn(5, 0, false, 9, 7);
        x.book(0, 0, 10);
        why(x, 5, 0, 10, 7);
        why(x, 6, 0, 10, 0);
        why(x, 1, 0, 10, 0);
        why(x, 5, 1, 10, 0);
        why(x, 5, 0, 11, 0);
        why(x, 5, 0, 9, 0);
        x.book(6, 0, 10);
        why(x, 7, 0, 10, 7);
        x.cancel(0, 10);
        why(x, 5, 0, 10, 0);
    }

    private static void apartTexts() {
        Edge.sentence(9, "\"apart like l\", \"apart turn t\": "
                + "a bill with one of LIKE l, with TURN t (other than itself).");
        Office x = new Office();
        for (int like : new int[] {3, 2, 1, 0, 3, 9}) {
            x.turn(5, 0, false, like, 0);
        }
        x.hall(0, 100, 60);
        // TURN 0 is of LIKE 3 and TURN 3 of LIKE 0: numbers and LIKES aren't the same.
        x.signText(0, 0, "apart like 1;");
        x.signText(1, 0, "apart turn 3;");
        x.book(0, 0, 10);
        x.book(1, 0, 20);
        why(x, 1, 0, 10, 0);
        why(x, 2, 0, 10, 8);
        why(x, 3, 0, 10, 0);
        why(x, 0, 0, 20, 0);
        why(x, 3, 0, 20, 8);
        why(x, 2, 0, 20, 0);
        // Itself, and its own LIKE, don't bar it.
        x.signText(5, 0, "apart like 9; apart turn 5; apart like 10; apart turn 40; apart turn 999;");
        why(x, 5, 0, 10, 0);
        why(x, 5, 0, 20, 0);
        Edge.due("book", x.book(5, 0, 20), 2);
        why(x, 2, 0, 20, 0);
    }

    private static void apartOnBill() {
        Edge.sentence(9, "8 \"apart\", by its own CONTRACT, or by that of a TURN on that bill;");
        Office x = office();
        x.signText(0, 5, "apart turn 1; apart like 2;");
        x.book(1, 0, 4);
        x.book(1, 1, 5);
        x.book(2, 2, 5);
        x.book(3, 3, 5);
        why(x, 0, 0, 4, 0);
        why(x, 0, 1, 5, 8);
        why(x, 0, 2, 5, 8);
        why(x, 0, 3, 5, 0);
        why(x, 0, 1, 6, 0);
        // The other way round: by TURN 0's, when it is on the bill.
        x.book(0, 0, 20);
        why(x, 1, 0, 20, 8);
        why(x, 2, 0, 20, 8);
        why(x, 3, 0, 20, 0);
        x.book(0, 0, 2);
        why(x, 2, 0, 2, 0);
        // In force in that WEEK: from it on, not from the one behind it.
        x = office();
        x.book(0, 0, 20);
        x.signText(0, 21, "apart turn 1; apart like 2;");
        why(x, 1, 0, 20, 0);
        why(x, 2, 0, 20, 0);
        x.signText(0, 20, "apart turn 1; apart like 2;");
        why(x, 1, 0, 20, 8);
        why(x, 2, 0, 20, 8);
        // As known NOW: signed since.
        x.weeks(3);
        x.signText(0, 20, "apart like 4;");
        why(x, 1, 0, 20, 0);
        why(x, 4, 0, 20, 8);
        // By one of several on the bill, be it the last of them.
        x.book(3, 0, 20);
        x.signText(3, 0, "apart turn 4;");
        why(x, 4, 0, 20, 8);
        x.signText(0, 20, "");
        why(x, 4, 0, 20, 8);
        x.signText(3, 0, "");
        why(x, 4, 0, 20, 0);
        x.weeks(3);
        x.signText(4, 0, "apart like 3;");
        why(x, 4, 0, 20, 8);
        x.cancel(3, 20);
        why(x, 4, 0, 20, 0);
    }

    private static void sameHall() {
        Edge.sentence(9, "9 it was, or is to be, in that HALL in a WEEK less than 8 away;");
        Office x = office();
        x.book(0, 0, 20);
        why(x, 0, 0, 12, 0);
        why(x, 0, 0, 13, 9);
        why(x, 0, 0, 19, 9);
        why(x, 0, 0, 21, 9);
        why(x, 0, 0, 27, 9);
        why(x, 0, 0, 28, 0);
        why(x, 0, 1, 21, 0);
        why(x, 1, 0, 21, 0);
        x.weeks(24);
        why(x, 0, 0, 24, 9);
        why(x, 0, 0, 28, 0);
        x.book(1, 1, 59);
        why(x, 1, 1, 52, 9);
        why(x, 1, 1, 51, 0);
        x = office();
        x.book(0, 0, 0);
        why(x, 0, 0, 7, 9);
        why(x, 0, 0, 8, 0);
        x.cancel(0, 0);
        why(x, 0, 0, 7, 0);
    }

    private static Office tenOfThreeMinutes(int minutes) {
        Office x = new Office();
        for (int i = 0; i < 10; i++) {
            x.turn(3, 0, false, i, 0);
        }
        x.hall(0, 100, minutes);
        return x;
    }

    private static void nineOnTheBill() {
        Edge.sentence(9, "10 nine are on that bill;");
        Office x = tenOfThreeMinutes(120);
        for (int i = 0; i < 8; i++) {
            x.book(i, 0, 10);
        }
        why(x, 8, 0, 10, 0);
        Edge.due("the ninth", x.book(8, 0, 10), 9);
        why(x, 9, 0, 10, 10);
        why(x, 9, 0, 11, 0);
        x.cancel(0, 10);
        why(x, 9, 0, 10, 0);
        Edge.due("nine again", x.book(9, 0, 10), 9);
        why(x, 0, 0, 10, 10);
    }

    private static void minutes() {
        Edge.sentence(9, "11 its MINUTES with theirs are more than the HALL's.");
        Office x = new Office();
        x.turn(10, 0, false, 0, 0);
        x.turn(10, 0, false, 1, 0);
        x.turn(11, 0, false, 2, 0);
        x.turn(20, 0, false, 3, 0);
        x.hall(0, 100, 20);
        why(x, 3, 0, 10, 0);
        x.book(0, 0, 10);
        why(x, 1, 0, 10, 0);
        why(x, 2, 0, 10, 11);
        why(x, 3, 0, 10, 11);
        why(x, 3, 0, 11, 0);
        Edge.due("as many as the HALL's", x.book(1, 0, 10), 2);
        Edge.due("MINUTES", x.bill(0, 10, 1), 20);
        x = tenOfThreeMinutes(27);
        Edge.due("nine of three in 27", x.fill(0, 0, 9), 9);
        x = tenOfThreeMinutes(26);
        Edge.due("nine of three in 26", x.fill(0, 0, 9), 8);
        why(x, x.where(8, 0) == -1 ? 8 : 9, 0, 0, 11);
    }
}

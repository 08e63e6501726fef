/** Promise 9, with part 2 of the Terms: what bars a booking, and which comes first. */
public final class BarsTest {
    private static final int LOW = Integer.MIN_VALUE;
    private static final int HIGH = Integer.MAX_VALUE;

    private BarsTest() {
    }

    public static void main(String[] args) {
        notAsTold();
        bookedInThatWeek();
        tooFar();
        neverInThatHall();
        barredByItsContract();
        barredByTheContractOfAnotherWeek();
        contractsAreAsKnownNow();
        alike();
        apart();
        sameHallTooSoon();
        billIsFull();
        tooLong();
        firstOneCounts();
        Due.end();
    }

    /** Four TURNS, none alike, and four HALLS, all but the last within 150 miles. */
    private static Office office() {
        Office x = new Office();
        for (int i = 0; i < 4; i++) {
            x.turn(5 + i, 0, false, i, 10 * i);
        }
        x.hall(0, 100, 60);
        x.hall(100, 100, 60);
        x.hall(150, 100, 60);
        x.hall(151, 100, 60);
        return x;
    }

    private static void why(Office x, int turn, int hall, int week, int due) {
        Due.due("why(" + turn + ", " + hall + ", " + week + ")", x.why(turn, hall, week), due);
    }

    private static void notAsTold() {
        Office x = office();
        why(x, 0, 0, 0, 0);
        why(x, 0, 0, 59, 0);
        for (int bad : new int[] {-1, 4, LOW, HIGH}) {
            why(x, bad, 0, 0, 1);
            why(x, 0, bad, 0, 1);
        }
        for (int week : new int[] {-1, 60, LOW, HIGH}) {
            why(x, 0, 0, week, 1);
        }
        x.weeks(5);
        why(x, 0, 0, 4, 1);
        why(x, 0, 0, 5, 0);
    }

    private static void bookedInThatWeek() {
        Office x = office();
        x.book(0, 0, 3);
        why(x, 0, 0, 3, 2);
        why(x, 0, 1, 3, 2);
        why(x, 0, 1, 4, 0);
        why(x, 1, 0, 3, 0);
    }

    private static void tooFar() {
        Office x = office();
        x.book(0, 0, 3);
        why(x, 0, 2, 2, 0);
        why(x, 0, 2, 4, 0);
        why(x, 0, 3, 2, 3);
        why(x, 0, 3, 4, 3);
        why(x, 0, 3, 1, 0);
        why(x, 0, 3, 5, 0);
        x.weeks(4);
        why(x, 0, 3, 4, 3);
        x.book(1, 0, 59);
        why(x, 1, 3, 58, 3);
    }

    private static void neverInThatHall() {
        Office x = office();
        x.signText(0, 2, "never hall 0; never hall 2; never hall 500;");
        why(x, 0, 0, 1, 0);
        why(x, 0, 0, 2, 4);
        why(x, 0, 1, 2, 0);
        why(x, 0, 2, 2, 4);
        why(x, 1, 0, 2, 0);
        x.signText(0, 5, "");
        why(x, 0, 0, 4, 4);
        why(x, 0, 0, 5, 0);
        x.signText(1, 0, "pay 0; place 0; apart like 0; apart turn 0; bar 0 weeks 0;");
        why(x, 1, 0, 0, 0);
    }

    private static void barredByItsContract() {
        Office x = office();
        x.book(0, 0, 10);
        x.signText(0, 0, "bar 100 weeks 3; bar 101 weeks 2;");
        why(x, 0, 1, 12, 5);
        why(x, 0, 1, 8, 5);
        why(x, 0, 1, 13, 0);
        why(x, 0, 1, 7, 0);
        why(x, 0, 2, 11, 0);
        why(x, 0, 0, 13, 5);
        why(x, 0, 0, 7, 5);
        why(x, 0, 0, 14, 9);
        why(x, 1, 1, 12, 0);
        x.weeks(11);
        why(x, 0, 1, 12, 5);
        x = office();
        x.book(0, 0, 10);
        x.signText(0, 0, "bar 0 weeks 59; bar 999 weeks 0;");
        why(x, 0, 1, 11, 0);
        x.signText(0, 0, "bar 999 weeks 999;");
        why(x, 0, 1, 59, 5);
        x = office();
        x.book(0, 0, 0);
        x.book(1, 0, 59);
        x.signText(0, 1, "bar 999 weeks 2;");
        x.signText(1, 0, "bar 999 weeks 2;");
        why(x, 0, 1, 2, 5);
        why(x, 1, 1, 57, 5);
    }

    private static void barredByTheContractOfAnotherWeek() {
        Office x = office();
        x.book(0, 0, 10);
        x.signText(0, 10, "bar 101 weeks 2;");
        why(x, 0, 1, 9, 6);
        why(x, 0, 1, 8, 6);
        why(x, 0, 1, 7, 0);
        why(x, 0, 2, 9, 0);
        why(x, 0, 1, 11, 5);
        x.signText(0, 11, "");
        why(x, 0, 1, 11, 6);
        why(x, 0, 1, 12, 6);
        why(x, 0, 1, 13, 0);
        why(x, 1, 1, 11, 0);
        x.cancel(0, 10);
        why(x, 0, 1, 11, 0);
        x.book(1, 0, 0);
        x.signText(1, 0, "bar 999 weeks 2;");
        x.signText(1, 1, "");
        why(x, 1, 1, 2, 6);
        x.book(2, 0, 59);
        x.signText(2, 59, "bar 999 weeks 2;");
        why(x, 2, 1, 57, 6);
    }

    private static void contractsAreAsKnownNow() {
        Office x = office();
        x.book(0, 0, 10);
        x.weeks(2);
        x.signText(0, 0, "never hall 1; bar 999 weeks 4; apart like 1;");
        why(x, 0, 1, 12, 4);
        why(x, 0, 2, 12, 5);
        x.signText(0, 12, "");
        why(x, 0, 1, 12, 6);
        x.signText(0, 10, "");
        why(x, 0, 1, 11, 0);
        x.book(1, 1, 9);
        why(x, 0, 1, 9, 4);
    }

    private static void alike() {
        Office x = office();
        x.turn(5, 0, false, 0, 0);
        x.book(0, 0, 0);
        why(x, 4, 0, 0, 7);
        why(x, 4, 1, 0, 0);
        why(x, 4, 0, 1, 0);
        x.cancel(0, 0);
        why(x, 4, 0, 0, 0);
    }

    private static void apart() {
        Office x = office();
        x.turn(5, 0, false, 7, 0);
        x.signText(0, 0, "apart like 2; apart turn 3; apart turn 0; apart like 0; apart like 99; apart turn 99;");
        x.book(0, 0, 0);
        why(x, 1, 0, 0, 0);
        why(x, 2, 0, 0, 8);
        why(x, 3, 0, 0, 8);
        why(x, 4, 0, 0, 0);
        x.book(2, 1, 1);
        x.book(3, 2, 2);
        x.book(1, 0, 1);
        why(x, 0, 1, 1, 8);
        why(x, 0, 2, 2, 8);
        why(x, 0, 0, 8, 0);
        x.signText(4, 5, "apart like 3; apart turn 2;");
        x.book(4, 1, 6);
        why(x, 3, 1, 6, 8);
        why(x, 2, 1, 6, 8);
        why(x, 2, 2, 6, 0);
        x.book(4, 0, 4);
        why(x, 3, 0, 4, 0);
        // The text of a TURN's number doesn't count as a LIKE, nor the other way round.
        x = office();
        x.turn(5, 0, false, 9, 0);
        x.signText(0, 0, "apart like 4; apart turn 9;");
        x.book(0, 0, 0);
        why(x, 4, 0, 0, 0);
    }

    private static void sameHallTooSoon() {
        Office x = office();
        x.book(0, 0, 20);
        why(x, 0, 0, 12, 0);
        why(x, 0, 0, 13, 9);
        why(x, 0, 0, 19, 9);
        why(x, 0, 0, 27, 9);
        why(x, 0, 0, 28, 0);
        why(x, 0, 1, 27, 0);
        why(x, 1, 0, 27, 0);
        x.weeks(22);
        why(x, 0, 0, 22, 9);
        x.book(1, 1, 58);
        why(x, 1, 1, 59, 9);
        why(x, 1, 1, 51, 9);
        why(x, 1, 1, 50, 0);
    }

    private static void billIsFull() {
        Office x = new Office();
        for (int i = 0; i < 10; i++) {
            x.turn(3, 0, false, i, 0);
        }
        x.turn(20, 0, false, 9, 0);
        x.hall(0, 100, 27);
        x.hall(0, 100, 30);
        for (int i = 0; i < 9; i++) {
            why(x, i, 0, 0, 0);
            Due.due("book " + i, x.book(i, 0, 0), i + 1);
            x.book(i, 1, 1);
        }
        why(x, 9, 0, 0, 10);
        why(x, 9, 1, 1, 10);
        why(x, 10, 0, 0, 10);
        x.cancel(8, 0);
        why(x, 9, 0, 0, 0);
        why(x, 10, 0, 0, 11);
    }

    private static void tooLong() {
        Office x = new Office();
        x.turn(10, 0, false, 0, 0);
        x.turn(10, 0, false, 1, 0);
        x.turn(11, 0, false, 2, 0);
        x.hall(0, 100, 20);
        x.book(0, 0, 0);
        why(x, 1, 0, 0, 0);
        why(x, 2, 0, 0, 11);
        why(x, 2, 0, 1, 0);
    }

    /** Every two of them that follow one another hold at once; the first is told. */
    private static void firstOneCounts() {
        Office x = office();
        x.book(0, 0, 3);
        x.book(0, 2, 4);
        x.signText(0, 0, "never hall 0; never hall 3; bar 999 weeks 9;");
        why(x, 0, 3, 3, 2);
        why(x, 0, 3, 2, 3);
        why(x, 0, 0, 1, 4);
        why(x, 0, 1, 1, 5);
        x.signText(0, 5, "apart like 1;");
        x.book(1, 1, 6);
        x.turn(5, 0, false, 0, 0);
        x.book(4, 1, 6);
        why(x, 0, 1, 6, 6);
        x.cancel(0, 3);
        x.cancel(0, 4);
        why(x, 0, 1, 6, 7);
        x.cancel(4, 6);
        x.book(0, 1, 7);
        why(x, 0, 1, 6, 8);
        x.cancel(1, 6);
        why(x, 0, 1, 6, 9);
        nineOnTheBillOfSameHall();
    }

    private static void nineOnTheBillOfSameHall() {
        Office x = new Office();
        for (int i = 0; i < 10; i++) {
            x.turn(3, 0, false, i, 0);
        }
        x.hall(0, 100, 27);
        x.book(9, 0, 1);
        x.fill(0, 0, 8);
        why(x, 9, 0, 0, 9);
        x.book(8, 0, 0);
        why(x, 9, 0, 0, 9);
        x.cancel(9, 1);
        why(x, 9, 0, 0, 10);
    }
}

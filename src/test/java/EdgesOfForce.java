/** Promises 8 and 18, sentence by sentence: force, pay, and which CONTRACT is in force. */
final class EdgesOfForce {
    private static final int LOW = Edge.LOW;
    private static final int HIGH = Edge.HIGH;
    private static final Scene BUSY = new Scene(Scenes::busy);

    private EdgesOfForce() {
    }

    static void all() {
        forceTells();
        forceChooses();
        withoutOne();
        payTells();
        payOfTheLast();
    }

    private static void force(Office x, int turn, int week, int known, int due) {
        Edge.due("force(" + turn + ", " + week + ", " + known + ")", x.force(turn, week, known), due);
    }

    private static void forceTells() {
        Edge.sentence(8, "The CONTRACT of a TURN in force in a WEEK as known in one");
        BUSY.changesNothing("force(0, 3, 3)", x -> x.force(0, 3, 3), 0);
        BUSY.changesNothing("force(0, 4, 3)", x -> x.force(0, 4, 3), 3);
        BUSY.changesNothing("force(0, 4, 2)", x -> x.force(0, 4, 2), 0);
        BUSY.changesNothing("force(4, 6, 0)", x -> x.force(4, 6, 0), 2);

        Edge.sentence(8, "(both 0 to 59);");
        for (int known : new int[] {0, 59}) {
            BUSY.changesNothing("force(1, 0, " + known + ")", x -> x.force(1, 0, known), 1);
            BUSY.changesNothing("force(1, 59, " + known + ")", x -> x.force(1, 59, known), 1);
        }
        for (int bad : new int[] {-1, 60, LOW, HIGH}) {
            BUSY.changesNothing("force(1, " + bad + ", 59)", x -> x.force(1, bad, 59), -1);
            BUSY.changesNothing("force(1, 59, " + bad + ")", x -> x.force(1, 59, bad), -1);
        }

        Edge.sentence(8, "NONE: none, none such.");
        BUSY.changesNothing("force(4, 5, 59), not from then on", x -> x.force(4, 5, 59), -1);
        BUSY.changesNothing("force(5, 59, 59), without one", x -> x.force(5, 59, 59), -1);
        for (int bad : new int[] {-1, 6, 40, LOW, HIGH}) {
            BUSY.changesNothing("force(" + bad + ", 59, 59)", x -> x.force(bad, 59, 59), -1);
        }
        Office x = BUSY.office();
        x.sign(5, 0, 0);
        force(x, 5, 0, 5, 4);
    }

    /** CONTRACT 0 from 10 in WEEK 0; 1 from 4, 2 from 10 in WEEK 5; 3 from 4, 4 from 0, 5 from 0 in WEEK 8. */
    private static Office signedThrice() {
        Office x = new Office();
        x.turn(3, 0, false, 0, 0);
        x.turn(3, 0, false, 1, 0);
        x.sign(0, 10, 0);
        x.weeks(5);
        x.sign(0, 4, 0);
        x.sign(0, 10, 0);
        x.weeks(3);
        x.sign(0, 4, 0);
        x.sign(0, 0, 0);
        x.sign(0, 0, 0);
        x.sign(1, 30, 0);
        return x;
    }

    private static void forceChooses() {
        Edge.sentence(8, "in force in a WEEK w as known in k: of those SIGNED in k at most,");
        Office x = signedThrice();
        force(x, 0, 10, 4, 0);
        force(x, 0, 10, 5, 2);
        force(x, 0, 4, 4, -1);
        force(x, 0, 4, 5, 1);
        force(x, 0, 4, 7, 1);
        force(x, 0, 4, 8, 3);
        force(x, 0, 0, 7, -1);
        force(x, 0, 0, 8, 5);
        force(x, 1, 59, 7, -1);
        force(x, 1, 59, 8, 6);

        Edge.sentence(8, "from w at most,");
        force(x, 0, 9, 0, -1);
        force(x, 0, 10, 0, 0);
        force(x, 0, 3, 5, -1);
        force(x, 0, 4, 5, 1);
        force(x, 1, 29, 8, -1);
        force(x, 1, 30, 8, 6);

        Edge.sentence(8, "the one from the latest WEEK,");
        force(x, 0, 9, 5, 1);
        force(x, 0, 10, 5, 2);
        force(x, 0, 3, 8, 5);
        force(x, 0, 4, 8, 3);
        force(x, 0, 9, 59, 3);
        force(x, 0, 10, 59, 2);
        force(x, 0, 59, 59, 2);

        Edge.sentence(8, "of those the latest one.");
        force(x, 0, 10, 8, 2);
        force(x, 0, 4, 8, 3);
        force(x, 0, 0, 8, 5);
        x.sign(0, 10, 0);
        force(x, 0, 10, 8, 7);
        force(x, 0, 10, 7, 2);
    }

    private static void withoutOne() {
        Edge.sentence(18, "A TURN without one in force has no bars, pay 0.");
        Office x = new Office();
        x.turn(5, 0, false, 0, 0);
        x.turn(5, 0, false, 1, 0);
        x.hall(0, 100, 60);
        x.hall(10, 100, 60);
        x.signText(0, 3, "never hall 1; pay 9; apart turn 1; bar 999 weeks 0; place 2;");
        x.book(0, 0, 2);
        x.book(1, 1, 2);
        Edge.due("pay in the WEEK ahead", x.pay(0, 2, 0), 0);
        Edge.due("why in the WEEK ahead, never", x.why(0, 1, 1), 0);
        Edge.due("why in that WEEK, never", x.why(0, 1, 3), 4);
        x.book(0, 0, 10);
        x.book(1, 1, 10);
        Edge.due("pay in force", x.pay(0, 10, 0), 9);
        x.cancel(1, 10);
        Edge.due("why with one in force on the bill", x.why(1, 0, 10), 8);
        x.cancel(1, 2);
        Edge.due("why with one not in force on the bill", x.why(1, 0, 2), 0);
        x.book(1, 0, 2);
        Edge.due("order with one not in force", x.order(0, 2, 0), 0);
        x.turn(5, 0, false, 2, 0);
        x.book(2, 0, 10);
        Edge.due("order with one in force", x.order(0, 10, 0), 2);
        Edge.due("pay of one that has none", x.pay(1, 2, 59), 0);
        Edge.due("pay of all", x.bill(0, 2, 3), 0);
    }

    private static void payTells() {
        Edge.sentence(18, "What a TURN is paid in a WEEK as known in one: by the CONTRACT in force then,");
        BUSY.changesNothing("pay(0, 2, 0)", x -> x.pay(0, 2, 0), 40);
        BUSY.changesNothing("pay(0, 2, 59)", x -> x.pay(0, 2, 59), 40);
        BUSY.changesNothing("pay(0, 5, 2)", x -> x.pay(0, 5, 2), 40);
        BUSY.changesNothing("pay(0, 5, 3)", x -> x.pay(0, 5, 3), 50);
        BUSY.changesNothing("pay(0, 59, 0)", x -> x.pay(0, 59, 0), 40);
        BUSY.changesNothing("pay(0, 59, 59)", x -> x.pay(0, 59, 59), 50);
        BUSY.changesNothing("pay(4, 2, 59), not in force yet", x -> x.pay(4, 2, 59), 0);

        Edge.sentence(18, "if it's booked (as the bookings are); 0.");
        BUSY.changesNothing("pay(0, 3, 59), not booked", x -> x.pay(0, 3, 59), 0);
        BUSY.changesNothing("pay(0, 58, 59), not booked", x -> x.pay(0, 58, 59), 0);
        for (int bad : new int[] {-1, 6, 40, LOW, HIGH}) {
            BUSY.changesNothing("pay(" + bad + ", 2, 59)", x -> x.pay(bad, 2, 59), 0);
        }
        for (int bad : new int[] {-1, 60, LOW, HIGH}) {
            BUSY.changesNothing("pay(0, " + bad + ", 59)", x -> x.pay(0, bad, 59), 0);
            BUSY.changesNothing("pay(0, 2, " + bad + ")", x -> x.pay(0, 2, bad), 0);
        }
        Office x = BUSY.office();
        x.cancel(0, 59);
        Edge.due("pay of one cancelled, as known before that", x.pay(0, 59, 3), 0);
        x.fail(0, 5);
        Edge.due("pay of one that FAILED", x.pay(0, 5, 59), 0);
        x.book(0, 1, 20);
        Edge.due("pay of one booked since, as known before that", x.pay(0, 20, 3), 50);
    }

    private static void payOfTheLast() {
        Edge.sentence(18, "\"pay\": the last one.");
        String[] texts = {"pay 1;", "pay 1; pay 2;", "pay 2; pay 1;", "pay 7; pay 0;", "place 5; pay 3; bar 6 weeks 9;",
            "place 5;", "", "pay 1;pay 2;pay 3;pay 4;pay 5;pay 6;pay 7;pay 8;pay 9;pay 10;pay 11;pay 12;"};
        int[] due = {1, 2, 1, 0, 3, 0, 0, 12};
        for (int i = 0; i < texts.length; i++) {
            Office x = BUSY.office();
            x.sign(5, 0, 0);
            x.signText(0, 59, texts[i]);
            Edge.due("pay of '" + texts[i] + "'", x.pay(0, 59, 5), due[i]);
            Edge.due("pay of the bill", x.bill(2, 59, 3), due[i] + 11);
        }
    }
}

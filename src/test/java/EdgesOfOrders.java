/** Promises 14 and 15 and part 3 of the Terms, sentence by sentence: order, waits. */
final class EdgesOfOrders {
    private static final int LOW = Edge.LOW;
    private static final int HIGH = Edge.HIGH;
    private static final int PLAIN = 0;
    private static final int TOP = 1;
    private static final int DUMB = 2;
    private static final int FRONT = 3;
    private static final int FULL = 10;
    private static final Scene BUSY = new Scene(Scenes::busy);

    private EdgesOfOrders() {
    }

    static void all() {
        fullOnes();
        dumbOnes();
        placesTold();
        placesInForce();
        waitsOfTwo();
        bestOrder();
        orderTells();
        orderNone();
        waitsTells();
        waitsNone();
    }

    /** A bill of TURNS of these kinds, FULL where it is added, in HALL 0 and WEEK 5. */
    private static Office office(int... kinds) {
        Office x = new Office();
        x.hall(0, 100, 120);
        for (int i = 0; i < kinds.length; i++) {
            x.turn(5, kinds[i] % FULL, kinds[i] >= FULL, i, 0);
            x.book(i, 0, 5);
        }
        return x;
    }

    private static void laid(String what, Office x, int waits, int... order) {
        Edge.due(what + ": waits", x.waits(0, 5), waits);
        for (int k = 0; k < order.length; k++) {
            Edge.due(what + ": order " + k, x.order(0, 5, k), order[k]);
        }
        for (int k : new int[] {-1, order.length, 9, LOW, HIGH}) {
            Edge.due(what + ": order " + k, x.order(0, 5, k), -1);
        }
    }

    private static void fullOnes() {
        Edge.sentence(14, "==== 3. An ORDER of a bill (its TURNS, places 1 on): "
                + "two FULL ones never beside one another;");
        laid("one FULL", office(PLAIN + FULL), 0, 0);
        laid("two FULL", office(PLAIN + FULL, TOP + FULL), -1);
        laid("two FULL, one more", office(PLAIN + FULL, TOP + FULL, PLAIN), 4, 0, 2, 1);
        laid("three FULL, one more", office(PLAIN + FULL, TOP + FULL, PLAIN + FULL, PLAIN), -1);
        laid("three FULL, two more", office(PLAIN + FULL, TOP + FULL, PLAIN + FULL, PLAIN, FRONT), 4, 0, 3, 1, 4, 2);
        laid("five FULL of nine", office(10, 10, 10, 10, 10, 0, 0, 0, 0), 16, 0, 5, 1, 6, 2, 7, 3, 8, 4);
        laid("six FULL of nine", office(10, 10, 10, 10, 10, 10, 0, 0, 0), -1);
        laid("FULL ones as DUMB ones", office(DUMB + FULL, DUMB + FULL, FRONT), 0, 0, 2, 1);
    }

    private static void dumbOnes() {
        Edge.sentence(14, "DUMB ones first or last alone;");
        laid("one", office(DUMB), 0, 0);
        laid("two", office(DUMB, DUMB), 1, 0, 1);
        laid("two, one more", office(DUMB, DUMB, PLAIN), 2, 0, 2, 1);
        laid("three", office(DUMB, DUMB, DUMB), -1);
        laid("three, two more", office(DUMB, PLAIN, DUMB, PLAIN, DUMB), -1);
        laid("one in the midst of the numbers", office(PLAIN, DUMB, PLAIN), 2, 0, 2, 1);
        laid("one that alone could part two FULL", office(PLAIN + FULL, DUMB, PLAIN + FULL), -1);
        laid("one beside two FULL", office(PLAIN + FULL, DUMB, PLAIN + FULL, PLAIN), 6, 0, 3, 2, 1);
        laid("last, as it is the greatest", office(PLAIN, PLAIN, DUMB), 2, 0, 1, 2);
        Office x = office(PLAIN, PLAIN, DUMB);
        x.signText(0, 0, "place 3;");
        laid("first, as the last place is told", x, 2, 2, 1, 0);
        laid("nine", office(2, 0, 0, 0, 0, 0, 0, 0, 2), 8, 0, 1, 2, 3, 4, 5, 6, 7, 8);
    }

    private static void placesTold() {
        Edge.sentence(14, "each whose CONTRACT (in force in that WEEK as known NOW) "
                + "tells a place that there is on this bill at it.");
        for (int place = 1; place <= 4; place++) {
            Office x = office(PLAIN, PLAIN, PLAIN);
            x.signText(0, 0, "place " + place + ";");
            int[][] due = {{0, 1, 2}, {1, 0, 2}, {1, 2, 0}, {0, 1, 2}};
            laid("place " + place + " of 3", x, 2, due[place - 1]);
        }
        Office x = office(PLAIN, PLAIN, PLAIN);
        x.signText(2, 0, "place 1;");
        x.signText(0, 0, "place 1;");
        laid("two at one place", x, -1);
        x.signText(2, 0, "place 999;");
        laid("one of them at none that there is", x, 2, 0, 1, 2);
        x = office(PLAIN, DUMB, PLAIN);
        x.signText(1, 0, "place 2;");
        laid("a DUMB one told the midst", x, -1);
        x.signText(1, 0, "place 3;");
        laid("a DUMB one told the last", x, 2, 0, 2, 1);
        x = office(PLAIN + FULL, PLAIN + FULL, PLAIN);
        x.signText(2, 0, "place 3;");
        laid("FULL ones left beside one another", x, -1);
        x = office(0, 0, 0, 0, 0, 0, 0, 0, 0);
        for (int i = 0; i < 9; i++) {
            x.signText(i, 0, "place " + (9 - i) + ";");
        }
        laid("all of nine", x, 8, 8, 7, 6, 5, 4, 3, 2, 1, 0);
        x.signText(0, 0, "place 10;");
        laid("the tenth of nine", x, 8, 8, 7, 6, 5, 4, 3, 2, 1, 0);
        x.signText(0, 0, "place 8;");
        laid("one place twice", x, -1);
    }

    private static void placesInForce() {
        Edge.sentence(14, "\"place p\": at the p-th place of its bill (the last such statement; 0: none).");
        String[] texts = {"place 2; place 3;", "place 3; place 2;", "place 3; place 0;", "place 0; place 3;",
            "place 3; place 4;", "place 0;", "place 000;", "place 003;", "pay 3;", "place 3; pay 1; bar 2 weeks 1;"};
        int[] last = {0, 2, 2, 0, 2, 2, 2, 0, 2, 0};
        for (int i = 0; i < texts.length; i++) {
            Office x = office(PLAIN, PLAIN, PLAIN);
            x.signText(0, 5, texts[i]);
            Edge.due("the last with '" + texts[i] + "'", x.order(0, 5, 2), last[i]);
        }
        // In force in the bill's WEEK, as known NOW.
        Office x = office(PLAIN, PLAIN);
        x.signText(1, 6, "place 1;");
        laid("from the WEEK behind", x, 1, 0, 1);
        x.signText(1, 5, "place 1;");
        laid("from that WEEK", x, 1, 1, 0);
        x.weeks(9);
        x.signText(1, 5, "pay 1;");
        laid("signed when it has gone by", x, 1, 0, 1);
        x.signText(0, 0, "place 2;");
        laid("signed by the other", x, 1, 1, 0);
    }

    private static void waitsOfTwo() {
        Edge.sentence(15, "WAITS: of each two that lie beside one another: 0 if one is a FRONT;");
        laid("one alone", office(PLAIN), 0, 0);
        laid("FRONT, plain", office(FRONT, PLAIN), 0, 0, 1);
        laid("plain, FRONT", office(PLAIN, FRONT), 0, 0, 1);
        laid("FULL, FRONT", office(PLAIN + FULL, FRONT), 0, 0, 1);
        laid("FRONT, DUMB FULL", office(FRONT, DUMB + FULL), 0, 0, 1);
        laid("FRONT, FRONT", office(FRONT, FRONT), 0, 0, 1);

        Edge.sentence(15, "2 if one of them is FULL;");
        laid("FULL, plain", office(PLAIN + FULL, PLAIN), 2, 0, 1);
        laid("plain, FULL", office(PLAIN, PLAIN + FULL), 2, 0, 1);
        laid("DUMB, TOP FULL", office(DUMB, TOP + FULL), 2, 0, 1);
        laid("plain, FULL, FULL", office(PLAIN, PLAIN + FULL, TOP + FULL), 4, 1, 0, 2);

        Edge.sentence(15, "else 1.");
        laid("plain, plain", office(PLAIN, PLAIN), 1, 0, 1);
        laid("TOP, DUMB", office(TOP, DUMB), 1, 0, 1);
        laid("three plain", office(PLAIN, PLAIN, PLAIN), 2, 0, 1, 2);
        laid("nine plain", office(0, 0, 0, 0, 0, 0, 0, 0, 0), 8, 0, 1, 2, 3, 4, 5, 6, 7, 8);
    }

    private static void bestOrder() {
        Edge.sentence(14, "The BEST ORDER has the least sum of WAITS,");
        laid("a FRONT goes between", office(FRONT, PLAIN, PLAIN + FULL), 0, 1, 0, 2);
        laid("FULL goes to an end", office(PLAIN, PLAIN + FULL, PLAIN), 3, 0, 2, 1);
        laid("FULL goes beside the FRONT", office(PLAIN, TOP + FULL, FRONT, DUMB), 1, 1, 2, 0, 3);
        laid("FRONTS apart", office(FRONT, FRONT, PLAIN, PLAIN, PLAIN), 0, 2, 0, 3, 1, 4);
        laid("four FRONTS of nine", office(3, 3, 3, 3, 10, 10, 10, 10, 10), 0, 4, 0, 5, 1, 6, 2, 7, 3, 8);
        laid("a FRONT and nothing gained by going first", office(FRONT, PLAIN, DUMB, PLAIN + FULL), 1, 2, 1, 0, 3);

        Edge.sentence(14, "of several the least TURN first, then the least second, and so on.");
        laid("all the same", office(PLAIN, TOP, PLAIN, TOP), 3, 0, 1, 2, 3);
        laid("FRONTS that may go first", office(FRONT, FRONT, PLAIN, PLAIN), 0, 0, 2, 1, 3);
        laid("FULL first or last", office(PLAIN, PLAIN, PLAIN + FULL), 3, 0, 1, 2);
        laid("FULL first or last", office(PLAIN + FULL, PLAIN, PLAIN), 3, 0, 1, 2);
        laid("the least second", office(PLAIN, PLAIN + FULL, PLAIN, PLAIN), 4, 0, 2, 3, 1);
        laid("two FRONTS", office(PLAIN, FRONT, PLAIN, FRONT), 0, 0, 1, 2, 3);
        laid("the last two by numbers", office(DUMB, PLAIN, PLAIN, FRONT, PLAIN), 2, 0, 1, 2, 3, 4);
    }

    private static void orderTells() {
        Edge.sentence(14, "The k-th TURN (k from 0 on) of a bill's BEST ORDER.");
        BUSY.changesNothing("order(0, 2, 0)", x -> x.order(0, 2, 0), 0);
        BUSY.changesNothing("order(0, 2, 1)", x -> x.order(0, 2, 1), 1);
        BUSY.changesNothing("order(0, 2, 2)", x -> x.order(0, 2, 2), 2);
        BUSY.changesNothing("order(0, 7, 0)", x -> x.order(0, 7, 0), 5);
        BUSY.changesNothing("order(1, 5, 1)", x -> x.order(1, 5, 1), 0);
        Office x = BUSY.office();
        x.cancel(0, 5);
        Edge.due("order, one cancelled", x.order(1, 5, 0), 2);
        Edge.due("order, one cancelled", x.order(1, 5, 1), -1);
    }

    private static void orderNone() {
        Edge.sentence(14, "NONE: none such,");
        for (int bad : new int[] {-1, 3, 9, LOW, HIGH}) {
            BUSY.changesNothing("order(0, 2, " + bad + ")", x -> x.order(0, 2, bad), -1);
            BUSY.changesNothing("order(" + bad + ", 2, 0)", x -> x.order(bad, 2, 0), -1);
        }
        for (int bad : new int[] {-1, 60, LOW, HIGH}) {
            BUSY.changesNothing("order(0, " + bad + ", 0)", x -> x.order(0, bad, 0), -1);
        }
        BUSY.changesNothing("order of a bill without a TURN", x -> x.order(0, 3, 0), -1);

        Edge.sentence(14, "no ORDER there is.");
        Edge.due("order of two, one FULL", office(PLAIN, TOP + FULL).order(0, 5, 0), 0);
        new Scene(x -> Scenes.bookedFull(x, true)).changesNothing("order of two FULL", x -> x.order(0, 5, 0), -1);
        new Scene(x -> Scenes.bookedFull(x, true)).changesNothing("order of two FULL", x -> x.order(0, 5, 1), -1);
        new Scene(x -> Scenes.bookedFull(x, false)).changesNothing("order of one FULL", x -> x.order(0, 5, 1), 1);
    }

    private static void waitsTells() {
        Edge.sentence(15, "The sum of WAITS of a bill's BEST ORDER.");
        BUSY.changesNothing("waits(0, 2)", x -> x.waits(0, 2), 1);
        BUSY.changesNothing("waits(0, 7)", x -> x.waits(0, 7), 0);
        BUSY.changesNothing("waits(1, 5)", x -> x.waits(1, 5), 0);
        BUSY.changesNothing("waits(2, 59)", x -> x.waits(2, 59), -1);
        laid("four FULL of nine", office(10, 10, 10, 10, 0, 0, 0, 0, 0), 14, 0, 4, 1, 5, 2, 6, 7, 8, 3);
    }

    private static void waitsNone() {
        Edge.sentence(15, "NONE: no such bill with a TURN,");
        for (int bad : new int[] {-1, 3, 10, LOW, HIGH}) {
            BUSY.changesNothing("waits(" + bad + ", 2)", x -> x.waits(bad, 2), -1);
        }
        for (int bad : new int[] {-1, 60, LOW, HIGH}) {
            BUSY.changesNothing("waits(0, " + bad + ")", x -> x.waits(0, bad), -1);
        }
        BUSY.changesNothing("waits of a bill without a TURN", x -> x.waits(0, 3), -1);
        Office x = office(PLAIN);
        Edge.due("waits of one", x.waits(0, 5), 0);
        x.cancel(0, 5);
        Edge.due("waits of none", x.waits(0, 5), -1);

        Edge.sentence(15, "no ORDER there is.");
        new Scene(y -> Scenes.bookedFull(y, true)).changesNothing("waits of two FULL", y -> y.waits(0, 5), -1);
        new Scene(y -> Scenes.bookedFull(y, false)).changesNothing("waits of one FULL", y -> y.waits(0, 5), 2);
    }
}

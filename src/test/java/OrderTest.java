/** Promises 14 and 15, with part 3 of the Terms: order, waits. */
public final class OrderTest {
    private static final int LOW = Integer.MIN_VALUE;
    private static final int HIGH = Integer.MAX_VALUE;
    private static final int PLAIN = 0;
    private static final int TOP = 1;
    private static final int DUMB = 2;
    private static final int FRONT = 3;

    private OrderTest() {
    }

    public static void main(String[] args) {
        noSuchBill();
        oneAlone();
        waitsOfTwo();
        fullOnesNeverBeside();
        dumbOnesFirstOrLast();
        placesTold();
        placesAsKnownNow();
        leastOfSeveral();
        nineOnABill();
        Due.end();
    }

    /** A bill of TURNS of these kinds, FULL where 10 is added, in HALL 0 and WEEK 5. */
    private static Office office(int... kinds) {
        Office x = new Office();
        x.hall(0, 100, 120);
        for (int i = 0; i < kinds.length; i++) {
            x.turn(5, kinds[i] % 10, kinds[i] >= 10, i, 0);
            x.book(i, 0, 5);
        }
        return x;
    }

    private static void laid(String what, Office x, int waits, int... order) {
        Due.due(what + ": waits", x.waits(0, 5), waits);
        for (int k = 0; k < order.length; k++) {
            Due.due(what + ": order " + k, x.order(0, 5, k), order[k]);
        }
        for (int k : new int[] {-1, order.length, 9, LOW, HIGH}) {
            Due.due(what + ": order " + k, x.order(0, 5, k), -1);
        }
    }

    private static void noSuchBill() {
        Office x = office(PLAIN);
        int[][] none = {{0, 4}, {0, 6}, {-1, 5}, {1, 5}, {-1, 4}, {1, 4}, {0, -1}, {0, 60}, {LOW, 5}, {0, HIGH}};
        for (int[] b : none) {
            Due.due("order of the bill", x.order(0, 5, 0), 0);
            Due.due("waits of no bill", x.waits(b[0], b[1]), -1);
            Due.due("waits of the bill", x.waits(0, 5), 0);
            Due.due("order of no bill", x.order(b[0], b[1], 0), -1);
        }
        laid("the bill", x, 0, 0);
        x.cancel(0, 5);
        laid("cancelled", x, -1);
    }

    private static void oneAlone() {
        for (int kind : new int[] {PLAIN, TOP, DUMB, FRONT, PLAIN + 10, TOP + 10, DUMB + 10}) {
            laid("one of kind " + kind, office(kind), 0, 0);
        }
    }

    private static void waitsOfTwo() {
        laid("plain, plain", office(PLAIN, PLAIN), 1, 0, 1);
        laid("plain, full", office(PLAIN, PLAIN + 10), 2, 0, 1);
        laid("full, plain", office(TOP + 10, TOP), 2, 0, 1);
        laid("dumb, full", office(DUMB, TOP + 10), 2, 0, 1);
        laid("dumb, dumb", office(DUMB, DUMB), 1, 0, 1);
        laid("front, plain", office(FRONT, PLAIN), 0, 0, 1);
        laid("full, front", office(PLAIN + 10, FRONT), 0, 0, 1);
        laid("front, front", office(FRONT, FRONT), 0, 0, 1);
        laid("full, full", office(PLAIN + 10, DUMB + 10), -1);
    }

    private static void fullOnesNeverBeside() {
        laid("full, full, plain", office(PLAIN + 10, PLAIN + 10, PLAIN), 4, 0, 2, 1);
        laid("full, full, front", office(PLAIN + 10, TOP + 10, FRONT), 0, 0, 2, 1);
        laid("three full, plain", office(PLAIN + 10, TOP + 10, PLAIN + 10, PLAIN), -1);
        laid("three full, two more", office(PLAIN + 10, TOP + 10, PLAIN + 10, PLAIN, FRONT), 4, 0, 3, 1, 4, 2);
    }

    private static void dumbOnesFirstOrLast() {
        laid("plain, dumb, plain", office(PLAIN, DUMB, PLAIN), 2, 0, 2, 1);
        laid("dumb, dumb, plain", office(DUMB, DUMB, PLAIN), 2, 0, 2, 1);
        laid("dumb, dumb, dumb", office(DUMB, DUMB, DUMB), -1);
        laid("dumb, dumb full, front", office(DUMB, DUMB + 10, FRONT), 0, 0, 2, 1);
        laid("two dumb full, one full", office(DUMB + 10, DUMB + 10, PLAIN + 10, PLAIN), -1);
    }

    private static void placesTold() {
        Office x = office(PLAIN, PLAIN, PLAIN);
        x.signText(0, 0, "place 3;");
        laid("place 3 of 3", x, 2, 1, 2, 0);
        x.signText(0, 0, "place 4;");
        laid("place 4 of 3", x, 2, 0, 1, 2);
        x.signText(0, 0, "place 999;");
        laid("place 999", x, 2, 0, 1, 2);
        x.signText(0, 0, "place 3; place 2;");
        laid("the last one told", x, 2, 1, 0, 2);
        x.signText(0, 0, "place 3; place 0;");
        laid("place 0", x, 2, 0, 1, 2);
        x.signText(0, 0, "place 3; place 4;");
        laid("the last one told isn't there", x, 2, 0, 1, 2);
        x.signText(0, 0, "place 1;");
        x.signText(2, 0, "place 1;");
        laid("two at one place", x, -1);
        x = office(PLAIN, PLAIN, DUMB);
        x.signText(2, 0, "place 2;");
        laid("a DUMB one in the middle", x, -1);
        x.signText(2, 0, "place 1;");
        laid("a DUMB one first", x, 2, 2, 0, 1);
        x = office(PLAIN + 10, PLAIN + 10, PLAIN);
        x.signText(2, 0, "place 1;");
        laid("FULL ones forced beside", x, -1);
        x = office(FRONT, PLAIN, PLAIN + 10);
        x.signText(0, 0, "place 1;");
        laid("a FRONT forced first", x, 2, 0, 1, 2);
    }

    private static void placesAsKnownNow() {
        Office x = office(PLAIN, PLAIN);
        x.signText(1, 6, "place 1;");
        laid("not in force yet", x, 1, 0, 1);
        x.weeks(9);
        x.signText(1, 4, "place 1;");
        laid("known later on", x, 1, 1, 0);
        x.signText(1, 5, "");
        laid("in force instead", x, 1, 0, 1);
    }

    private static void leastOfSeveral() {
        laid("front in between", office(PLAIN, TOP + 10, FRONT, DUMB), 1, 1, 2, 0, 3);
        laid("full at the end", office(PLAIN, PLAIN, PLAIN + 10), 3, 0, 1, 2);
        laid("full first", office(PLAIN + 10, PLAIN, PLAIN), 3, 0, 1, 2);
        laid("full in the middle costs", office(PLAIN, PLAIN + 10, PLAIN), 3, 0, 2, 1);
        laid("fronts apart", office(FRONT, FRONT, PLAIN, PLAIN, PLAIN), 0, 2, 0, 3, 1, 4);
        laid("each first one waits less", office(FRONT, PLAIN, DUMB, PLAIN + 10), 1, 2, 1, 0, 3);
        laid("fronts", office(FRONT, FRONT, PLAIN, PLAIN), 0, 0, 2, 1, 3);
    }

    private static void nineOnABill() {
        laid("nine plain", office(0, 0, 0, 0, 0, 0, 0, 0, 0), 8, 0, 1, 2, 3, 4, 5, 6, 7, 8);
        laid("five full", office(10, 10, 10, 10, 10, 0, 0, 0, 0), 16, 0, 5, 1, 6, 2, 7, 3, 8, 4);
        laid("six full", office(10, 10, 10, 10, 10, 10, 0, 0, 0), -1);
        laid("four fronts", office(3, 3, 3, 3, 10, 10, 10, 10, 10), 0, 4, 0, 5, 1, 6, 2, 7, 3, 8);
        Office x = office(0, 0, 0, 0, 0, 0, 0, 0, 0);
        for (int i = 0; i < 9; i++) {
            x.signText(i, 0, "place " + (9 - i) + ";");
        }
        laid("all told", x, 8, 8, 7, 6, 5, 4, 3, 2, 1, 0);
        x.signText(0, 0, "place 1;");
        laid("one place left", x, -1);
        billsShrinkAndGrow();
    }

    /** What an earlier, longer bill left behind doesn't count. */
    private static void billsShrinkAndGrow() {
        Office x = office(10, 0, 10, 0, 3);
        laid("five", x, 3, 0, 1, 3, 4, 2);
        x.cancel(4, 5);
        laid("four", x, 5, 0, 1, 3, 2);
        x.cancel(1, 5);
        laid("three", x, 4, 0, 3, 2);
        x.cancel(3, 5);
        laid("two", x, -1);
        x.book(4, 0, 5);
        laid("three again", x, 0, 0, 4, 2);
    }
}

/** Every sentence of the document, by its promise, at its boundary and from both sides. */
public final class EdgesTest {
    private EdgesTest() {
    }

    public static void main(String[] args) {
        EdgesOfLists.all();
        EdgesOfTexts.all();
        EdgesOfForce.all();
        EdgesOfBars.all();
        EdgesOfBookings.all();
        EdgesOfOrders.all();
        EdgesOfFailures.all();
        Edge.end();
    }
}

/** Promises 8, 9, 31 and 32: bids offered and undone, all bids of a town, the greatest. */
public final class OfferTest {
    private static final Check check = new Check();
    private static final String TOWNS = "town a 1 9 1 50;town b 1 9 1 50;town c 1 9 1 50;"
        + "town d 1 9 1 50;";

    public static void main(String[] args) {
        offers();
        fortyBids();
        undoing();
        nothingToUndo();
        sums();
        check.end();
    }

    private static void offers() {
        RentRiver river = Check.river(TOWNS);
        check.due("offer(3, 11, 999)", river.offer(3, 11, 999), true);
        check.due("bid(3, 11)", river.bid(3, 11), 999);
        check.due("offer(3, 11, 0)", river.offer(3, 11, 0), true);
        check.due("bid(3, 11)", river.bid(3, 11), 0);
        check.due("offer(4, 0, 1)", river.offer(4, 0, 1), false);
        check.due("offer(-1, 0, 1)", river.offer(-1, 0, 1), false);
        check.due("offer(0, 12, 1)", river.offer(0, 12, 1), false);
        check.due("offer(0, -1, 1)", river.offer(0, -1, 1), false);
        check.due("offer(0, 0, 1000)", river.offer(0, 0, 1000), false);
        check.due("offer(0, 0, -1)", river.offer(0, 0, -1), false);
        check.due("count(1)", river.count(1), 0);
        // Offers that were not done are not undone.
        check.due("undo()", river.undo(), 1);
        check.due("bid(3, 11)", river.bid(3, 11), 999);
        check.due("undo()", river.undo(), 0);
        check.due("bid(3, 11)", river.bid(3, 11), 0);
        // A bid counts from now on.
        river.begin();
        river.on(1);
        river.offer(2, 1, 7);
        river.on(1);
        check.due("let(0, 0)", river.let(0, 0), 8);
        check.due("let(1, 0)", river.let(1, 0), 2);
    }

    private static void fortyBids() {
        RentRiver river = Check.river(TOWNS);
        for (int i = 0; i < 40; i++) {
            check.due("offer()", river.offer(i / 12, i % 12, 1), true);
        }
        check.due("count(1)", river.count(1), 40);
        check.due("a 41st bid", river.offer(3, 4, 1), false);
        check.due("no bid more", river.offer(3, 4, 0), true);
        check.due("a bid raised", river.offer(3, 3, 2), true);
        check.due("a bid taken back", river.offer(3, 3, 0), true);
        check.due("a 40th bid", river.offer(3, 4, 1), true);
        check.due("count(1)", river.count(1), 40);
        check.due("undo()", river.undo(), 7);
        check.due("undo()", river.undo(), 6);
        check.due("count(1)", river.count(1), 40);
        check.due("bid(3, 3)", river.bid(3, 3), 2);
    }

    private static void undoing() {
        RentRiver river = Check.river(TOWNS + "bid a 0 500;");
        check.due("undo()", river.undo(), -1);
        for (int n = 1; n <= 10; n++) {
            river.offer(0, 0, n);
        }
        for (int left = 7; left >= 0; left--) {
            check.due("undo()", river.undo(), left);
            check.due("bid(0, 0)", river.bid(0, 0), left + 2);
        }
        check.due("undo() of a ninth", river.undo(), -1);
        check.due("bid(0, 0)", river.bid(0, 0), 2);
        river.offer(1, 5, 9);
        river.offer(2, 5, 8);
        river.undo();
        river.offer(3, 5, 7);
        check.due("undo()", river.undo(), 1);
        check.due("bid(3, 5)", river.bid(3, 5), 0);
        check.due("bid(1, 5)", river.bid(1, 5), 9);
        check.due("undo()", river.undo(), 0);
        check.due("bid(1, 5)", river.bid(1, 5), 0);
        check.due("count(1)", river.count(1), 1);
    }

    private static void nothingToUndo() {
        RentRiver river = Check.river(TOWNS);
        river.image(0);
        river.offer(0, 0, 5);
        river.restore(0);
        check.due("undo() behind restore()", river.undo(), -1);
        river.offer(0, 0, 5);
        Check.plain(river, "oops");
        check.due("undo() behind a text with a fault", river.undo(), 0);
    }

    private static void sums() {
        RentRiver river = Check.river(TOWNS + "bid a 0 999;bid a 11 999;bid a 5 1;bid b 5 1;bid c 5 3;"
            + "bid d 5 3;");
        check.due("bidsOf(0)", river.bidsOf(0), 1999);
        check.due("bidsOf(1)", river.bidsOf(1), 1);
        check.due("bidsOf(4)", river.bidsOf(4), -1);
        check.due("bidsOf(-1)", river.bidsOf(-1), -1);
        check.due("greatest(5)", river.greatest(5), 2);
        check.due("greatest(0), beyond its purse", river.greatest(0), 0);
        check.due("greatest(1)", river.greatest(1), -1);
        check.due("greatest(12)", river.greatest(12), -1);
        check.due("greatest(-1)", river.greatest(-1), -1);
        river.offer(0, 11, 0);
        check.due("bidsOf(0)", river.bidsOf(0), 1000);
        check.due("greatest(11)", river.greatest(11), -1);
    }
}

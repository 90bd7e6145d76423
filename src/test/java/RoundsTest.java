/** Promises 22 to 24: prices by ROUNDS. */
public final class RoundsTest {
    private static final Check check = new Check();

    public static void main(String[] args) {
        wrongAsks();
        nobodyWants();
        outbidding();
        theMostLeft();
        atMostAThousand();
        theLatestStays();
        check.end();
    }

    private static void wrongAsks() {
        RentRiver river = new RentRiver();
        check.due("rounds(1) without towns", river.rounds(1), -1);
        check.due("has(0) ahead of any", river.has(0), -1);
        check.due("price(0) ahead of any", river.price(0), -1);
        river = Check.river("town a 0 0 0 0;bid a 4 2;");
        check.due("has(0) ahead of any", river.has(0), -1);
        check.due("rounds(0)", river.rounds(0), -1);
        check.due("rounds(100)", river.rounds(100), -1);
        check.due("price(0) ahead of any", river.price(0), -1);
        check.due("rounds(99)", river.rounds(99), 2);
        check.due("has(0)", river.has(0), 4);
        check.due("has(1)", river.has(1), -1);
        check.due("has(-1)", river.has(-1), -1);
        check.due("has(8)", river.has(8), -1);
        check.due("price(4)", river.price(4), 0);
        check.due("price(12)", river.price(12), -1);
        check.due("price(-1)", river.price(-1), -1);
    }

    private static void nobodyWants() {
        RentRiver river = Check.river("town a 0 0 0 0;town b 0 0 0 0;");
        check.due("rounds(1) without bids", river.rounds(1), 1);
        check.due("has(0)", river.has(0), -1);
        check.due("price(11)", river.price(11), 0);
    }

    private static void outbidding() {
        // a 0; b 2 of a; a 4 of b; b can't give 6 of 6: nothing would be left.
        RentRiver river = Check.river("town a 0 0 0 0;town b 0 0 0 0;bid a 0 6;bid b 0 6;");
        check.due("rounds(2)", river.rounds(2), 3);
        check.due("has(0)", river.has(0), 0);
        check.due("has(1)", river.has(1), -1);
        check.due("price(0)", river.price(0), 4);
        // A step as great as the worth ends it at once.
        check.due("rounds(6)", river.rounds(6), 2);
        check.due("has(0)", river.has(0), 0);
        check.due("price(0)", river.price(0), 0);
        check.due("rounds(5)", river.rounds(5), 2);
        check.due("has(0)", river.has(0), -1);
        check.due("has(1)", river.has(1), 0);
        check.due("price(0)", river.price(0), 5);
    }

    private static void theMostLeft() {
        // Like ones: the first month. A month that somebody has costs a step more.
        RentRiver river = Check.river("town a 0 0 0 0;town b 0 0 0 0;town c 0 0 0 0;"
            + "bid a 3 5;bid a 7 5;bid b 3 6;bid b 7 5;bid c 3 9;bid c 11 2;");
        check.due("rounds(1)", river.rounds(1), 6);
        // Rounds 1: a 3 at 0, b 3 at 1, c 3 at 2. 2: a 7 at 0, b 7 at 1. 3: a 7 at 2, b 3 at 3,
        // c 3 at 4. 4: b 7 at 3. 5: a 7 at 4, b 3 at 5, c 3 at 6. 6: nothing is left for b.
        check.due("has(0)", river.has(0), 7);
        check.due("has(1)", river.has(1), -1);
        check.due("has(2)", river.has(2), 3);
        check.due("price(3)", river.price(3), 6);
        check.due("price(7)", river.price(7), 4);
        check.due("price(11)", river.price(11), 0);
    }

    /** Each town wants the month of its number and the one ahead of it, as much as can be. */
    private static RentRiver chain(int towns) {
        StringBuilder text = new StringBuilder();
        for (int town = 0; town < towns; town++) {
            String name = "t" + (char) ('a' + town);
            text.append("town ").append(name).append(" 0 0 0 0;");
            for (int month = Math.max(0, town - 1); month <= Math.min(town, towns - 2); month++) {
                text.append("bid ").append(name).append(' ').append(month).append(" 999;");
            }
        }
        return Check.river(text.toString());
    }

    private static void atMostAThousand() {
        check.due("rounds(1) of two", chain(2).rounds(1), 501);
        RentRiver river = chain(3);
        check.due("rounds(1) that rest in the thousandth", river.rounds(1), 1000);
        check.due("price(0)", river.price(0), 998);
        check.due("price(1)", river.price(1), 998);
        river = chain(4);
        check.due("rounds(1) that don't rest by then", river.rounds(1), 1000);
        check.due("price(0) by then", river.price(0), 666);
        check.due("price(2) by then", river.price(2), 667);
        check.due("rounds(2)", river.rounds(2), 751);
    }

    private static void theLatestStays() {
        RentRiver river = Check.river("town a 0 0 0 0;town b 0 0 0 0;bid a 0 6;bid b 0 9;bid b 2 1;");
        river.rounds(3);
        check.due("has(1)", river.has(1), 0);
        check.due("price(0)", river.price(0), 3);
        river.offer(1, 0, 0);
        check.due("rounds(100)", river.rounds(100), -1);
        check.due("has(1) of the latest", river.has(1), 0);
        Check.plain(river, "");
        check.due("rounds(1) without towns", river.rounds(1), -1);
        check.due("has(1) of the latest", river.has(1), 0);
        check.due("price(0) of the latest", river.price(0), 3);
    }
}

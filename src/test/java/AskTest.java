/** Promises 27, 28 and 35 to 38: what is asked of a plain and of years that are tried. */
public final class AskTest {
    private static final Check check = new Check();

    public static void main(String[] args) {
        wettest();
        enough();
        worth();
        drawn();
        shores();
        must();
        mustByContracts();
        check.end();
    }

    private static void wettest() {
        RentRiver river = Check.river("town a 5 0 0 0;town b 99 0 0 0;water 3 7;water 5 9;water 6 9;");
        check.due("wettest(0)", river.wettest(0), 5);
        check.due("wettest(1)", river.wettest(1), 5);
        check.due("wettest(2)", river.wettest(2), -1);
        check.due("wettest(-1)", river.wettest(-1), -1);
        check.due("wettest(0) without water", Check.river("town a 5 0 0 0;").wettest(0), 0);
        check.due("wettest(0) in the last month",
            Check.river("town a 5 0 0 0;water 11 9;water 2 8;").wettest(0), 11);
    }

    private static void enough() {
        RentRiver river = Check.river("town a 5 0 0 0;town b 0 0 0 0;town c 0 0 0 0;town d 8 0 0 0;"
            + "water 3 7;water 5 9;water 6 9;water 8 3;need a 10;need b 28;need c 29;need d 2;");
        check.due("enough(0)", river.enough(0), 3);
        check.due("enough(1)", river.enough(1), 4);
        check.due("enough(2)", river.enough(2), -1);
        check.due("enough(3)", river.enough(3), 2);
        check.due("enough(4)", river.enough(4), -1);
        check.due("enough(-1)", river.enough(-1), -1);
        StringBuilder text = new StringBuilder("town a 0 0 0 0;town b 0 0 0 0;need b 12;");
        for (int month = 0; month < 12; month++) {
            text.append("water ").append(month).append(" 1;");
        }
        river = Check.river(text.toString());
        check.due("enough(0) without need", river.enough(0), 0);
        check.due("enough(1) of all months", river.enough(1), 12);
    }

    private static void worth() {
        RentRiver river = Check.river("town a 0 9 0 50;town b 0 9 0 50;bid a 0 10;bid b 0 8;bid a 5 3;"
            + "move 1;");
        // 10 and 3 less six places; without a: 8 less two places. Without b: nothing changes.
        check.due("worth(0)", river.worth(0), (13 - 8) - (8 - 2));
        check.due("worth(1)", river.worth(1), 0);
        check.due("worth(2)", river.worth(2), -10001);
        check.due("worth(-1)", river.worth(-1), -10001);
        check.due("the bids stay", river.bidsOf(0), 13);
        check.due("count(1)", river.count(1), 3);
        Check.contracts(river, "let 0 a 20;");
        check.due("worth(0), contracts as they are", river.worth(0), (23 - 8) - (20 - 4));
        check.due("no year by it", river.year(0), -1001);
    }

    private static void drawn() {
        check.due("drawn(1) without towns", new RentRiver().drawn(1), -10001);
        // By drawn water alone a drinks; the treasury tells for how many months it lived.
        StringBuilder text = new StringBuilder("town a 40 99 10 999;patience 2;");
        for (int month = 0; month < 12; month++) {
            text.append("bid a ").append(month).append(" ").append(1 + month).append(";");
        }
        RentRiver river = Check.river(text.toString());
        int[] seeds = {0, 1, 2, 3, -1, 99, 12345, Integer.MAX_VALUE, Integer.MIN_VALUE};
        boolean unlike = false;
        for (int seed : seeds) {
            int due = treasury(seed);
            check.due("drawn(" + seed + ")", river.drawn(seed), due);
            unlike |= due != treasury(1);
        }
        check.due("the seeds tell apart", unlike, true);
        check.due("no year by it", river.year(0), -1001);
        check.due("the water stays", river.water(0), 0);
    }

    /** The treasury of the plain of drawn(), worked out on its own. */
    private static int treasury(int seed) {
        int x = seed;
        int pond = 0;
        int dry = 0;
        int sum = 0;
        for (int month = 0; month < 12 && dry < 2; month++) {
            x = x * 1103515245 + 12345;
            sum += 1 + month;
            pond = Math.min(99, pond + Math.max(0, (x >>> 8) % 100 - 40));
            dry = pond < 10 ? dry + 1 : 0;
            pond = Math.max(0, pond - 10);
        }
        return sum;
    }

    private static void shores() {
        StringBuilder text = new StringBuilder("town a 40 99 10 999;town b 0 9 1 0;town c 0 9 0 0;"
            + "patience 2;");
        for (int month = 0; month < 12; month++) {
            text.append("bid a ").append(month).append(" ").append(1 + month).append(";");
        }
        RentRiver river = Check.river(text.toString());
        int[] seeds = {1, -50, Integer.MAX_VALUE - 3, Integer.MIN_VALUE};
        for (int seed : seeds) {
            int due = 0;
            for (int i = 0; i < 100; i++) {
                due += river.shores(0, 1, seed + i);
                check.due("a year is one or none", river.shores(0, 1, seed + i) >>> 1, 0);
            }
            check.due("shores(0, 100, " + seed + ")", river.shores(0, 100, seed), due);
            check.due("some, not all", due > 0 && due < 100, true);
        }
        check.due("shores(1, 7, 1)", river.shores(1, 7, 1), 7);
        check.due("shores(2, 7, 1)", river.shores(2, 7, 1), 0);
        check.due("shores(3, 7, 1)", river.shores(3, 7, 1), -1);
        check.due("shores(-1, 7, 1)", river.shores(-1, 7, 1), -1);
        check.due("shores(1, 0, 1)", river.shores(1, 0, 1), -1);
        check.due("shores(1, 101, 1)", river.shores(1, 101, 1), -1);
        check.due("shores(1, 100, 1)", river.shores(1, 100, 1), 100);
    }

    private static void must() {
        RentRiver river = Check.river("town a 0 9 0 50;town b 0 9 0 999;town c 0 9 0 60;town d 0 9 1 99;"
            + "bid a 0 10;bid b 0 20;bid c 0 20;bid a 1 40;bid c 2 60;bid b 3 999;bid d 4 90;patience 2;");
        check.due("must(0, 0)", river.must(0, 0), 20);
        check.due("must(1, 0), as it bids", river.must(1, 0), 20);
        check.due("must(2, 0)", river.must(2, 0), 21);
        check.due("must(3, 0)", river.must(3, 0), 21);
        check.due("must(1, 1)", river.must(1, 1), 41);
        // b paid 20 in month 0, so that its 999 is beyond its purse in month 3.
        check.due("must(0, 3)", river.must(0, 3), 1);
        // a has 10 left of 50 behind month 1.
        check.due("must(0, 2)", river.must(0, 2), -1);
        check.due("must(1, 2)", river.must(1, 2), 60);
        check.due("must(2, 2)", river.must(2, 2), 1);
        // d is dry for two months, and no one asks a shore.
        check.due("must(3, 4)", river.must(3, 4), -1);
        check.due("must(0, 4)", river.must(0, 4), 1);
        check.due("must(4, 0)", river.must(4, 0), -1);
        check.due("must(-1, 0)", river.must(-1, 0), -1);
        check.due("must(0, 12)", river.must(0, 12), -1);
        check.due("must(0, -1)", river.must(0, -1), -1);
        check.due("the bids stay", river.bid(2, 0), 20);
        RentRiver rich = Check.river("town a 0 9 0 999;town b 0 9 0 999;bid a 0 999;");
        check.due("must(1, 0) beyond 999", rich.must(1, 0), -1);
        rich.offer(0, 0, 0);
        rich.offer(1, 0, 999);
        check.due("must(0, 0) of 999", rich.must(0, 0), 999);
    }

    private static void mustByContracts() {
        RentRiver river = Check.river("town a 0 9 0 50;town b 0 9 0 50;bid b 0 40;bid a 1 7;");
        Check.contracts(river, "let 0 a 20;let 1 a b 2;sea 2;let 3 b 51;let 4 a 29;let 5 a 30;");
        check.due("must(0, 0), which it has", river.must(0, 0), 1);
        check.due("must(1, 0)", river.must(1, 0), -1);
        check.due("must(0, 1), which it shares", river.must(0, 1), -1);
        check.due("must(0, 2), of the sea", river.must(0, 2), -1);
        check.due("must(1, 3), which it can't pay", river.must(1, 3), -1);
        check.due("must(0, 4), which it just can pay", river.must(0, 4), 1);
        check.due("must(0, 5), when its purse is empty", river.must(0, 5), -1);
        check.due("must(1, 6)", river.must(1, 6), 1);
    }
}

/** Section 2: each sentence about a YEAR that names a boundary, at it and just beyond it. */
public final class EdgesOfYearsTest {
    private static final Check check = new Check();

    public static void main(String[] args) {
        aheadOfIt();
        twelveMonths();
        thePriceThatAPurseHas();
        thePriceOfAShore();
        halvesOfAPrice();
        bothOrNone();
        whereNoneTells();
        likeBids();
        theBidThatAPurseHas();
        pursesByMills();
        theSeaBehindTheLastTown();
        theWayOfTwoTowns();
        bridges();
        bridgesOfTwoTowns();
        fish();
        halvesOfWater();
        asMuchAsThereIsToSeep();
        upToTheStore();
        aMillWithoutWater();
        useOfAllThereIs();
        dryMonthsOneAfterAnother();
        patience();
        aShoreInTheLastMonth();
        fieldsOfAllThereIs();
        fieldsBehindUse();
        theLongestRow();
        theHarvest();
        allWater();
        theTreasuryBelowNothing();
        check.end();
    }

    private static RentRiver begun(String plain, String contracts, int months) {
        RentRiver river = Check.river(plain);
        check.due("contracts() of '" + contracts + "'", Check.contracts(river, contracts) >= 0, true);
        check.due("begin()", river.begin(), true);
        check.due("on(" + months + ")", river.on(months), months);
        return river;
    }

    private static void let(RentRiver river, int month, int town, int other, int paid) {
        check.due("let(" + month + ", 0)", river.let(month, 0), town);
        check.due("let(" + month + ", 1)", river.let(month, 1), other);
        check.due("let(" + month + ", 2)", river.let(month, 2), paid);
    }

    private static void year(RentRiver river, int what, int due) {
        check.due("year(" + what + ")", river.year(what), due);
    }

    private static void town(RentRiver river, int town, int what, int due) {
        check.due("town(" + town + ", " + what + ")", river.town(town, what), due);
    }

    /** "Ahead of it ponds are empty, the river lies in the SEA, nobody is a SHORE." */
    private static void aheadOfIt() {
        RentRiver river = begun("town a 0 9 9 7;town b 0 9 0 8;water 0 9;bid b 0 1;patience 1;fish 5;", "", 12);
        town(river, 0, 3, 1);
        town(river, 1, 0, 9);
        year(river, 3, 4 - 1);
        river.begin();
        for (int town = 0; town < 2; town++) {
            for (int what = 0; what < 10; what++) {
                town(river, town, what, what == 1 ? 7 + town : 0);
            }
        }
        for (int what = 0; what <= 10; what++) {
            year(river, what, what == 1 ? 8 : what == 3 ? 5 : 0);
        }
        check.due("droughts()", river.droughts(), 0);
    }

    /** "A YEAR has MONTHS 0 to 11." */
    private static void twelveMonths() {
        RentRiver river = begun("town a 0 99 0 99;bid a 0 1;bid a 11 2;water 0 3;water 11 4;", "", 11);
        let(river, 0, 0, -1, 1);
        let(river, 11, -1, -1, -1);
        year(river, 4, 3);
        check.due("on(1) for the twelfth", river.on(1), 1);
        let(river, 11, 0, -1, 2);
        year(river, 4, 7);
        Seen before = Seen.of(river);
        check.due("on(1) behind the twelfth", river.on(1), 0);
        check.due("on(12) behind the twelfth", river.on(12), 0);
        check.unchanged("a thirteenth month", before, river);
    }

    /** "the PRICE is paid, if .. its PURSE has it; else it goes to the SEA" */
    private static void thePriceThatAPurseHas() {
        RentRiver river = begun("town a 0 9 0 10;", "let 0 a 11;let 1 a 10;let 2 a 1;let 3 a 0;", 4);
        let(river, 0, 8, -1, 0);
        let(river, 1, 0, -1, 10);
        let(river, 2, 8, -1, 0);
        let(river, 3, 0, -1, 0);
        town(river, 0, 1, 0);
        town(river, 0, 5, 10);
        year(river, 2, 10);
        river = begun("town a 0 9 0 999;", "let 0 a 999;", 1);
        let(river, 0, 0, -1, 999);
        river = begun("town a 0 9 0 998;", "let 0 a 999;", 1);
        let(river, 0, 8, -1, 0);
    }

    /** "if the TOWN is no SHORE", though it has the PRICE, even one of 0. */
    private static void thePriceOfAShore() {
        RentRiver river = begun("town a 0 9 1 10;patience 2;", "let 1 a 0;let 2 a 0;", 3);
        // Dry in months 0 and 1 (no water): a shore behind month 1, not ahead of it.
        let(river, 1, 0, -1, 0);
        let(river, 2, 8, -1, 0);
    }

    /** "of two TOWNS each pays half, the first one the greater half" */
    private static void halvesOfAPrice() {
        int[][] halves = {{0, 0}, {1, 0}, {1, 1}, {2, 1}, {2, 2}, {500, 499}};
        int[] prices = {0, 1, 2, 3, 4, 999};
        for (int i = 0; i < prices.length; i++) {
            String plain = "town a 0 9 0 " + halves[i][0] + ";town b 0 9 0 " + halves[i][1] + ";";
            RentRiver river = begun(plain, "let 0 a b " + prices[i] + ";", 1);
            let(river, 0, 0, 1, prices[i]);
            town(river, 0, 5, halves[i][0]);
            town(river, 1, 5, halves[i][1]);
            town(river, 0, 1, 0);
            town(river, 1, 1, 0);
            year(river, 2, prices[i]);
            year(river, 9, 1);
        }
        RentRiver river = begun("town a 0 9 0 2;town b 0 9 0 3;", "let 0 b a 5;", 1);
        let(river, 0, 1, 0, 5);
    }

    /** "and this must be so of both" */
    private static void bothOrNone() {
        String[] plains = {"town a 0 9 0 2;town b 0 9 0 2;", "town a 0 9 0 3;town b 0 9 0 1;",
            "town a 0 9 0 0;town b 0 9 0 9;", "town a 0 9 0 9;town b 0 9 0 0;"};
        for (String plain : plains) {
            RentRiver river = begun(plain, "let 0 a b 5;", 1);
            let(river, 0, 8, -1, 0);
            town(river, 0, 5, 0);
            town(river, 1, 5, 0);
            year(river, 2, 0);
            year(river, 9, 0);
        }
        // One of them a shore: neither has it, as the first or as the second one.
        RentRiver river = begun("town a 0 9 1 9;town b 0 9 0 9;patience 1;",
            "let 0 a b 2;let 1 a b 2;let 2 b a 2;let 3 b 2;", 4);
        let(river, 0, 0, 1, 2);
        let(river, 1, 8, -1, 0);
        let(river, 2, 8, -1, 0);
        let(river, 3, 1, -1, 2);
    }

    /** "where none tells: .. else to the SEA"; where one tells, bids count nothing. */
    private static void whereNoneTells() {
        String plain = "town a 0 9 0 9;town b 0 9 0 9;bid a 0 1;bid a 1 1;bid a 2 1;bid a 3 1;";
        RentRiver river = begun(plain, "sea 0;let 1 b 0;let 2 b 10;", 5);
        let(river, 0, 8, -1, 0);
        let(river, 1, 1, -1, 0);
        let(river, 2, 8, -1, 0);
        let(river, 3, 0, -1, 1);
        let(river, 4, 8, -1, 0);
        check.due("droughts()", river.droughts(), 1 + 4 + 16);
    }

    /** "with the greatest bid .. (of like ones the first)" */
    private static void likeBids() {
        String towns = "town a 0 9 0 9;town b 0 9 0 9;town c 0 9 0 9;";
        RentRiver river = begun(towns + "bid a 0 3;bid b 0 4;bid c 0 4;", "", 1);
        let(river, 0, 1, -1, 4);
        river = begun(towns + "bid a 0 4;bid b 0 4;bid c 0 5;", "", 1);
        let(river, 0, 2, -1, 5);
        river = begun(towns + "bid c 0 1;bid b 0 1;bid a 0 1;", "", 1);
        let(river, 0, 0, -1, 1);
    }

    /** "the greatest bid for that MONTH that its PURSE has" */
    private static void theBidThatAPurseHas() {
        RentRiver river = begun("town a 0 9 0 5;town b 0 9 0 5;bid a 0 5;bid b 0 4;bid a 1 1;bid b 1 6;"
            + "bid b 2 5;", "", 3);
        let(river, 0, 0, -1, 5);
        let(river, 1, 8, -1, 0);
        let(river, 2, 1, -1, 5);
        // One beyond its purse steps aside for a lesser one, or for a like one behind it.
        river = begun("town a 0 9 0 4;town b 0 9 0 5;bid a 0 5;bid b 0 5;", "", 1);
        let(river, 0, 1, -1, 5);
        river = begun("town a 0 9 0 4;town b 0 9 0 4;bid a 0 5;bid b 0 1;", "", 1);
        let(river, 0, 1, -1, 1);
        river = begun("town a 0 9 0 999;bid a 0 999;", "", 1);
        let(river, 0, 0, -1, 999);
    }

    /** "Each TOWN that it is let to has its mill's N in its PURSE": behind paying, ahead of the next. */
    private static void pursesByMills() {
        RentRiver river = begun("town a 0 9 0 1;mill a 9;bid a 0 1;bid a 1 9;bid a 2 10;bid a 3 9;", "", 4);
        let(river, 0, 0, -1, 1);
        let(river, 1, 0, -1, 9);
        let(river, 2, 8, -1, 0);
        let(river, 3, 0, -1, 9);
        town(river, 0, 1, 9);
        // It does not help to pay in its own month.
        river = begun("town a 0 9 0 1;mill a 9;bid a 0 2;", "", 1);
        let(river, 0, 8, -1, 0);
        // Both of two have theirs.
        river = begun("town a 0 9 0 0;town b 0 9 0 0;mill a 99;mill b 98;", "let 0 b a 0;", 1);
        town(river, 0, 1, 99);
        town(river, 1, 1, 98);
    }

    /** "TOWNS lie in a row by their numbers, the SEA behind the last one." */
    private static void theSeaBehindTheLastTown() {
        RentRiver river = begun("town a 0 9 0 0;move 7;", "let 0 a 0;", 1);
        year(river, 10, 7);
        StringBuilder plain = new StringBuilder("move 1;fish 50;");
        for (int town = 0; town < 8; town++) {
            plain.append("town ").append((char) ('a' + town)).append(" 0 9 0 0;");
        }
        river = begun(plain.toString(), "let 0 a 0;let 1 h 0;sea 2;let 3 h 0;let 4 a 0;sea 5;", 6);
        year(river, 10, 8 + 7 + 1 + 1 + 7 + 8);
        year(river, 3, 50 - 32);
        // Where it stays, nothing is paid.
        river = begun("town a 0 9 0 0;move 99;bridge a 99;", "sea 0;sea 1;", 12);
        year(river, 10, 0);
        river = begun("town a 0 9 0 0;move 5;bridge a 3;", "let 0 a 0;let 1 a 0;", 2);
        year(river, 10, 8);
    }

    /** "(of two TOWNS the first one)" */
    private static void theWayOfTwoTowns() {
        RentRiver river = begun("town a 0 9 0 0;town b 0 9 0 0;town c 0 9 0 0;move 1;fish 9;",
            "let 0 c a 0;let 1 a c 0;let 2 b 0;", 1);
        year(river, 1, 2);
        year(river, 10, 1);
        river.on(1);
        year(river, 1, 0);
        year(river, 10, 3);
        river.on(1);
        year(river, 1, 1);
        year(river, 10, 4);
        year(river, 3, 5);
    }

    /** "the bridge of each TOWN to which it comes (that it was not let to in the MONTH ahead)" */
    private static void bridges() {
        String plain = "town a 0 9 0 0;town b 0 9 0 0;bridge a 1;bridge b 10;";
        RentRiver river = begun(plain, "let 0 a 0;let 1 a 0;let 2 b 0;let 3 a 0;sea 4;let 5 a 0;", 6);
        year(river, 10, 1 + 10 + 1 + 1);
        // What a contract tells but a purse has not is not let: the bridge is paid behind it.
        river = begun(plain, "let 0 a 0;let 1 a 1;let 2 a 0;", 3);
        year(river, 10, 2);
    }

    private static void bridgesOfTwoTowns() {
        String plain = "town a 0 9 0 0;town b 0 9 0 0;town c 0 9 0 0;bridge a 1;bridge b 10;bridge c 50;";
        RentRiver river = begun(plain, "let 0 a b 0;let 1 b a 0;let 2 b 0;let 3 a b 0;let 4 c b 0;let 5 a 0;", 1);
        int[] paid = {11, 11, 11, 12, 62, 63};
        for (int month = 0; month < paid.length; month++) {
            year(river, 10, paid[month]);
            river.on(1);
        }
    }

    /** "Fish are fewer by the way (0 at least)." */
    private static void fish() {
        int[] before = {3, 2, 1, 0, 4};
        int[] behind = {0, 0, 0, 0, 1};
        for (int i = 0; i < before.length; i++) {
            RentRiver river = begun("town a 0 9 0 0;town b 0 9 0 0;town c 0 9 0 0;fish " + before[i] + ";",
                "let 0 a 0;", 1);
            year(river, 3, behind[i]);
            river.on(1);
            year(river, 3, 0);
        }
    }

    /** "in halves for two (the first one the greater)" */
    private static void halvesOfWater() {
        int[][] halves = {{0, 0}, {1, 0}, {1, 1}, {2, 1}, {500, 499}};
        int[] waters = {0, 1, 2, 3, 999};
        for (int i = 0; i < waters.length; i++) {
            RentRiver river = begun("town a 0 999 0 0;town b 0 999 0 0;water 0 " + waters[i] + ";",
                "let 0 b a 0;", 1);
            town(river, 1, 0, halves[i][0]);
            town(river, 0, 0, halves[i][1]);
            town(river, 1, 6, halves[i][0]);
            town(river, 0, 6, halves[i][1]);
            year(river, 4, waters[i]);
            year(river, 8, waters[i]);
        }
    }

    /** "each less SEEP (as much as there is)" */
    private static void asMuchAsThereIsToSeep() {
        int[] waters = {6, 7, 8, 0};
        int[] seeped = {6, 7, 7, 0};
        for (int i = 0; i < waters.length; i++) {
            RentRiver river = begun("town a 7 99 0 0;water 0 " + waters[i] + ";", "let 0 a 0;", 1);
            year(river, 6, seeped[i]);
            town(river, 0, 0, waters[i] - seeped[i]);
            town(river, 0, 6, waters[i] - seeped[i]);
        }
        // Each of two by its own SEEP and its own half; nothing seeps in the sea.
        RentRiver river = begun("town a 7 99 0 0;town b 1 99 0 0;water 0 13;water 1 50;", "let 0 a b 0;", 2);
        year(river, 6, 8);
        town(river, 0, 0, 0);
        town(river, 1, 0, 5);
        year(river, 7, 50);
    }

    /** "comes into the pond, up to STORE; what is more runs over to the SEA" */
    private static void upToTheStore() {
        int[] stores = {0, 9, 10, 11, 999};
        int[] ponds = {0, 9, 10, 10, 10};
        for (int i = 0; i < stores.length; i++) {
            RentRiver river = begun("town a 2 " + stores[i] + " 0 0;water 0 12;", "let 0 a 0;", 1);
            town(river, 0, 0, ponds[i]);
            town(river, 0, 6, ponds[i]);
            year(river, 7, 10 - ponds[i]);
        }
        // A pond that is full takes no more; what USE makes free is taken.
        RentRiver river = begun("town a 0 10 1 0;water 0 11;water 1 5;", "let 0 a 0;let 1 a 0;", 2);
        town(river, 0, 0, 9);
        town(river, 0, 6, 11);
        year(river, 7, 1 + 4);
    }

    private static void aMillWithoutWater() {
        RentRiver river = begun("town a 0 0 0 0;mill a 4;", "let 0 a 0;", 2);
        town(river, 0, 1, 4);
        town(river, 0, 4, 1);
    }

    /** "uses USE from its pond (as much as there is); DRY is one that has less than USE" */
    private static void useOfAllThereIs() {
        int[] waters = {4, 5, 6, 0};
        int[] left = {0, 0, 1, 0};
        int[] used = {4, 5, 5, 0};
        int[] dry = {1, 0, 0, 1};
        for (int i = 0; i < waters.length; i++) {
            RentRiver river = begun("town a 0 9 5 0;water 0 " + waters[i] + ";", "let 0 a 0;", 1);
            town(river, 0, 0, left[i]);
            year(river, 5, used[i]);
            town(river, 0, 2, dry[i]);
            town(river, 0, 7, dry[i]);
        }
        RentRiver river = begun("town a 0 9 0 0;patience 1;", "", 12);
        town(river, 0, 7, 0);
        town(river, 0, 3, 0);
    }

    /** "its DRY MONTHS one after another are one more, else 0" */
    private static void dryMonthsOneAfterAnother() {
        RentRiver river = begun("town a 0 9 1 0;water 2 1;water 5 2;patience 3;", "let 2 a 0;let 5 a 0;", 0);
        int[] row = {1, 2, 0, 1, 2, 0, 0, 1, 2, 3, 4, 5};
        int[] all = {1, 2, 2, 3, 4, 4, 4, 5, 6, 7, 8, 9};
        for (int month = 0; month < 12; month++) {
            river.on(1);
            town(river, 0, 2, row[month]);
            town(river, 0, 7, all[month]);
            town(river, 0, 3, month >= 9 ? 1 : 0);
        }
    }

    /** "With 'patience' of them it becomes a SHORE for good", 1 to 12; 3 without. */
    private static void patience() {
        for (int patience = 1; patience <= 12; patience++) {
            RentRiver river = begun("town a 0 9 1 9;patience " + patience + ";", "", patience - 1);
            town(river, 0, 3, 0);
            river.on(1);
            town(river, 0, 3, 1);
            town(river, 0, 2, patience);
            check.due("shoresOf()", river.shoresOf(), 1);
        }
        RentRiver river = begun("town a 0 9 1 9;", "", 2);
        town(river, 0, 3, 0);
        river.on(1);
        town(river, 0, 3, 1);
        // For good, though water of its month would be enough.
        river = begun("town a 0 9 1 9;water 1 9;bid a 1 1;patience 1;", "", 12);
        town(river, 0, 3, 1);
        town(river, 0, 2, 12);
        town(river, 0, 7, 12);
        let(river, 1, 8, -1, 0);
    }

    private static void aShoreInTheLastMonth() {
        RentRiver river = begun("town a 0 99 1 9;water 0 11;bid a 0 1;patience 1;", "", 11);
        town(river, 0, 3, 0);
        river.on(1);
        town(river, 0, 3, 1);
        check.due("shoresOf()", river.shoresOf(), 1);
        river = begun("town a 0 99 1 9;water 0 12;bid a 0 1;patience 1;", "", 12);
        town(river, 0, 3, 0);
        check.due("shoresOf()", river.shoresOf(), 0);
    }

    /** "a TOWN's field takes its N from the pond, if the pond has as much (N above 0)" */
    private static void fieldsOfAllThereIs() {
        int[] waters = {4, 5, 6};
        int[] left = {4, 0, 1};
        int[] green = {0, 1, 1};
        for (int i = 0; i < waters.length; i++) {
            RentRiver river = begun("town a 0 9 0 0;field a 5 1;water 0 " + waters[i] + ";", "let 0 a 0;", 1);
            town(river, 0, 0, left[i]);
            town(river, 0, 8, green[i]);
            year(river, 5, waters[i] - left[i]);
        }
        // A field of 0 is never green, one of 1 is.
        RentRiver river = begun("town a 0 9 0 0;town b 0 9 0 0;field a 0 99;field b 1 99;water 0 6;",
            "let 0 a b 0;", 12);
        town(river, 0, 8, 0);
        town(river, 0, 9, 0);
        town(river, 1, 8, 3);
        town(river, 1, 9, 297);
    }

    /** "Behind USE a TOWN's field takes its N" */
    private static void fieldsBehindUse() {
        RentRiver river = begun("town a 0 99 3 0;field a 5 1;water 0 7;water 1 4;", "let 0 a 0;let 1 a 0;", 1);
        // 7 less 3 are 4: not enough for 5. Then 4 and 4 less 3 are 5.
        town(river, 0, 0, 4);
        town(river, 0, 8, 0);
        river.on(1);
        town(river, 0, 0, 0);
        town(river, 0, 8, 1);
        town(river, 0, 7, 0);
        year(river, 5, 11);
    }

    /** "RATE times its longest row of GREEN MONTHS" */
    private static void theLongestRow() {
        // Green in 0, 1; not in 2; in 3, 4, 5; not in 6; in 7, 8.
        RentRiver river = begun("town a 0 9 0 0;field a 1 10;water 0 2;water 3 3;water 7 2;",
            "let 0 a 0;let 3 a 0;let 7 a 0;", 0);
        int[] longest = {1, 2, 2, 2, 2, 3, 3, 3, 3, 3, 3, 3};
        for (int month = 0; month < 12; month++) {
            river.on(1);
            town(river, 0, 8, longest[month]);
        }
        town(river, 0, 9, 30);
        // All twelve of them.
        river = begun("town a 0 99 0 0;field a 1 99;water 0 12;", "let 0 a 0;", 12);
        town(river, 0, 8, 12);
        town(river, 0, 9, 1188);
    }

    /** "Behind MONTH 11 its HARVEST comes to its PURSE", 0 ahead of the end. */
    private static void theHarvest() {
        RentRiver river = begun("town a 0 99 0 5;field a 1 7;water 0 3;", "let 0 a 0;", 11);
        town(river, 0, 9, 0);
        town(river, 0, 1, 5);
        river.on(1);
        town(river, 0, 9, 21);
        town(river, 0, 1, 26);
        river.on(12);
        town(river, 0, 1, 26);
        // It comes too late for the bid of month 11, and the treasury has none of it.
        river = begun("town a 0 99 0 0;field a 1 7;water 0 3;bid a 11 1;", "let 0 a 0;", 12);
        let(river, 11, 8, -1, 0);
        year(river, 2, 0);
    }

    /** "All WATER is in ponds, was used (by fields, too), seeped, or is in the SEA." */
    private static void allWater() {
        StringBuilder plain = new StringBuilder("town a 3 20 4 50;town b 5 30 1 50;town c 0 9 9 50;"
            + "field b 2 3;patience 2;");
        for (int month = 0; month < 12; month++) {
            plain.append("water ").append(month).append(' ').append(month * 37 % 50).append(';');
            plain.append("bid ").append((char) ('a' + month % 3)).append(' ').append(month).append(" 3;");
        }
        RentRiver river = begun(plain.toString(), "let 4 a b 3;let 8 b c 5;sea 10;", 0);
        for (int month = 0; month < 12; month++) {
            river.on(1);
            check.due("all water behind " + month, river.year(5) + river.year(6) + river.year(7)
                + river.year(8), river.year(4));
            check.due("all ponds behind " + month, river.town(0, 0) + river.town(1, 0) + river.town(2, 0),
                river.year(8));
        }
    }

    /** "TREASURY (below 0 as it may be)" */
    private static void theTreasuryBelowNothing() {
        RentRiver river = begun("town a 0 9 0 10;move 5;bridge a 5;", "let 0 a 10;", 1);
        year(river, 2, 0);
        river = begun("town a 0 9 0 9;move 5;bridge a 5;", "let 0 a 9;", 1);
        year(river, 2, -1);
        // As far below as NONE - 1000, and further: 8 places of 99 and a bridge of 99 a month.
        StringBuilder far = new StringBuilder("move 99;bridge a 99;");
        StringBuilder towns = new StringBuilder();
        for (int town = 0; town < 8; town++) {
            towns.append("town ").append((char) ('a' + town)).append(" 0 9 0 0;");
        }
        StringBuilder deals = new StringBuilder();
        for (int month = 0; month < 12; month += 2) {
            deals.append("let ").append(month).append(" a 0;");
        }
        river = begun(towns + far.toString(), deals.toString(), 12);
        year(river, 2, -(12 * 8 * 99 + 6 * 99));
        year(river, 10, 12 * 8 * 99 + 6 * 99);
    }
}

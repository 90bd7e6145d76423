/** Section 3 and promises 19 to 43: each call at its boundaries and just beyond, and what is refused. */
public final class EdgesOfAsksTest {
    private static final Check check = new Check();
    private static final int[] FAR = {Integer.MIN_VALUE, -1000, -2, 1000, Integer.MAX_VALUE};
    private static final String A = "town a 0 9 0 9;";

    public static void main(String[] args) {
        promise19TownsAndNeeds();
        promise19Seep();
        promise19LikeOnes();
        promise19Bridges();
        promise20Plan();
        promise21Take();
        promise21AnotherPlain();
        promise22Rounds();
        promise22Worth();
        promise22Thousand();
        promise23And24();
        promise25Tapes();
        promise25Losses();
        promise25BehindUseAndFields();
        promise26Leak();
        promise27Wettest();
        promise28Enough();
        promise29ShoresOf();
        promise30Thirsty();
        promise31BidsOf();
        promise32Greatest();
        promise33Write();
        promise34ByteAt();
        promise35Worth();
        promise36Drawn();
        promise36EachDraw();
        promise37Shores();
        promise38Must();
        promise38OnePurseMore();
        promise38Contracts();
        promise39Sentence();
        promise40Said();
        promise40Signs();
        promise41And42();
        promise42AllTownsAndMonths();
        promise43Count();
        check.end();
    }

    private static int cheapest(String plain) {
        return Check.river(plain).cheapest();
    }

    private static void plan(RentRiver river, int... due) {
        for (int month = 0; month < 12; month++) {
            int want = month < due.length ? due[month] : due[due.length - 1];
            check.due("plan(" + month + ")", river.plan(month), want);
        }
    }

    /** "NONE: it can't be; -2: more than 3 TOWNS, none", "as much as its need" */
    private static void promise19TownsAndNeeds() {
        String three = A + "town b 0 9 0 9;town c 0 9 0 9;";
        check.due("cheapest() of none", new RentRiver().cheapest(), -2);
        check.due("cheapest() of one", cheapest(A + "move 1;"), 0);
        check.due("cheapest() of three", cheapest(three + "move 1;"), 0);
        check.due("cheapest() of four", cheapest(three + "town d 0 9 0 9;"), -2);
        check.due("a need just met", cheapest(A + "need a 12;water 3 7;water 8 5;move 1;"), 1);
        check.due("a need of one more", cheapest(A + "need a 13;water 3 7;water 8 5;move 1;"), -1);
        check.due("a need of 999", cheapest(A + "need a 999;water 11 999;move 1;"), 1);
        check.due("no water, no need", cheapest(A + "need a 0;move 1;"), 0);
        check.due("no water", cheapest(A + "need a 1;move 1;"), -1);
        // One month can't water two, though it has enough for both.
        check.due("one month for two", cheapest(A + "town b 0 9 0 9;need a 1;need b 1;water 4 9;"), -1);
        check.due("two months for two", cheapest(A + "town b 0 9 0 9;need a 1;need b 1;water 4 1;water 5 1;"), 0);
        // Twelve months for three, all of them needed.
        StringBuilder all = new StringBuilder(three + "need a 4;need b 4;need c 4;move 1;");
        for (int month = 0; month < 12; month++) {
            all.append("water ").append(month).append(" 1;");
        }
        RentRiver river = Check.river(all.toString());
        check.due("cheapest() of twelve months", river.cheapest(), 3);
        plan(river, 2, 2, 2, 2, 1, 1, 1, 1, 0, 0, 0, 0);
        // All twelve for the last town, and for the only one.
        river = Check.river(all.toString().replace("need a 4;need b 4;need c 4;", "need c 12;"));
        check.due("cheapest() of the last town alone", river.cheapest(), 1);
        plan(river, 2);
        Check.plain(river, A + "need a 12;" + all.substring(all.indexOf("move")));
        check.due("cheapest() of one town alone", river.cheapest(), 1);
        plan(river, 0);
        // The nearest town first, though plans that begin further off come first.
        river = Check.river(three + "need b 1;need c 1;water 3 1;water 7 1;move 10;");
        check.due("cheapest() of the nearest first", river.cheapest(), 20);
        plan(river, 2, 2, 2, 2, 1);
        // There and back is cheaper than to begin with the town further off.
        river = Check.river(A + "town b 0 9 0 9;need a 2;need b 2;water 1 1;water 4 2;water 5 1;move 3;");
        check.due("cheapest() there and back", river.cheapest(), 9);
        plan(river, 1, 1, 0, 0, 0, 1);
        river = Check.river(three + "need b 2;need c 1;water 4 2;water 5 1;move 1;");
        check.due("cheapest() of the nearest last", river.cheapest(), 3);
        plan(river, 1, 1, 1, 1, 1, 2);
        // A year's state, STORE and USE count nothing.
        check.due("cheapest() without a store", cheapest("town a 0 0 99 0;need a 9;water 0 9;move 2;"), 2);
    }

    /** "each less SEEP, 0 at least" */
    private static void promise19Seep() {
        check.due("seep less than water", cheapest("town a 4 9 0 9;need a 1;water 0 5;move 1;"), 1);
        check.due("seep as much as water", cheapest("town a 5 9 0 9;need a 1;water 0 5;move 1;"), -1);
        // Months that seep away whole take nothing from the others.
        check.due("seep above water", cheapest("town a 5 9 0 9;need a 1;water 0 6;water 1 1;move 1;"), 1);
        check.due("seep of each month", cheapest("town a 5 9 0 9;need a 2;water 0 6;water 1 6;move 1;"), 1);
        check.due("seep of each month", cheapest("town a 5 9 0 9;need a 3;water 0 6;water 1 6;move 1;"), -1);
    }

    /** "of like ones the first (MONTH by MONTH the least TOWN, the SEA last)" */
    private static void promise19LikeOnes() {
        RentRiver river = Check.river(A + "town b 0 9 0 9;town c 0 9 0 9;");
        check.due("cheapest() for nothing", river.cheapest(), 0);
        plan(river, 0);
        river = Check.river(A + "town b 0 9 0 9;bridge a 1;");
        check.due("cheapest() past a bridge", river.cheapest(), 0);
        plan(river, 1);
        river = Check.river(A + "town b 0 9 0 9;bridge a 1;bridge b 1;");
        check.due("cheapest() behind bridges", river.cheapest(), 0);
        plan(river, 8);
        river = Check.river(A + "town b 0 9 0 9;move 1;need b 1;water 6 1;");
        check.due("cheapest() of a town on the way", river.cheapest(), 1);
        plan(river, 1);
        river = Check.river(A + "town b 0 9 0 9;move 1;need a 1;water 6 1;");
        check.due("cheapest() past a town", river.cheapest(), 2);
        plan(river, 0);
    }

    /** "with the least paid for MOVES (bridges with them)" */
    private static void promise19Bridges() {
        // To b and on to a: two bridges, two places; no bridge for staying.
        String two = A + "town b 0 9 0 9;need a 1;need b 1;water 3 1;water 7 1;move 10;";
        RentRiver river = Check.river(two + "bridge a 99;bridge b 98;");
        check.due("cheapest() over two bridges", river.cheapest(), 217);
        plan(river, 1, 1, 1, 1, 0);
        // Straight to a and back to b costs a place more.
        river = Check.river("town a 0 9 0 9;town b 9 9 0 9;need a 1;need b 1;water 3 1;water 7 10;move 10;");
        check.due("cheapest() past one and back", river.cheapest(), 30);
        plan(river, 0, 0, 0, 0, 0, 0, 0, 1);
    }

    /** "NONE: no such one, or ahead of any", "by the latest cheapest() that was 0 or more" */
    private static void promise20Plan() {
        RentRiver river = Check.river(A + "need a 1;water 11 1;move 1;");
        check.due("plan(0) ahead of any", river.plan(0), -1);
        check.due("cheapest()", river.cheapest(), 1);
        check.due("plan(0)", river.plan(0), 0);
        check.due("plan(11)", river.plan(11), 0);
        check.due("plan(12)", river.plan(12), -1);
        check.due("plan(-1)", river.plan(-1), -1);
        for (int far : FAR) {
            check.due("plan(" + far + ")", river.plan(far), -1);
        }
        Check.plain(river, A + "need a 1;");
        Seen before = Seen.of(river);
        check.due("cheapest() that is NONE", river.cheapest(), -1);
        check.unchanged("cheapest() that is NONE", before, river);
        Check.plain(river, "");
        check.due("cheapest() that is -2", river.cheapest(), -2);
        plan(river, 0);
        Check.plain(river, A + "move 1;");
        check.due("cheapest() that is 0", river.cheapest(), 0);
        plan(river, 8);
    }

    /** "with the TOWNS' bids as PRICES (0 without)" */
    private static void promise21Take() {
        RentRiver river = Check.river(A + "town b 0 9 0 9;bid b 0 3;need b 1;water 0 1;move 1;");
        Seen before = Seen.of(river);
        check.due("take() ahead of any", river.take(), false);
        check.unchanged("take()", before, river);
        Check.contracts(river, "let 3 a b 7;");
        river.cheapest();
        check.due("cheapest() tells no contracts", river.count(5), 1);
        river.offer(1, 11, 999);
        check.due("take()", river.take(), true);
        check.due("count(5)", river.count(5), 12);
        for (int month = 0; month < 12; month++) {
            int price = month == 0 ? 3 : month == 11 ? 999 : 0;
            check.due("contract(" + month + ", 0)", river.contract(month, 0), 1);
            check.due("contract(" + month + ", 1)", river.contract(month, 1), -1);
            check.due("contract(" + month + ", 2)", river.contract(month, 2), price);
        }
        river.offer(1, 0, 5);
        check.due("contract(0, 2) as taken", river.contract(0, 2), 3);
        check.due("take() again", river.take(), true);
        check.due("contract(0, 2)", river.contract(0, 2), 5);
    }

    /** "or of another PLAIN than this (a text read anew is another one)" */
    private static void promise21AnotherPlain() {
        String text = A + "move 1;";
        RentRiver river = Check.river(text);
        check.due("cheapest()", river.cheapest(), 0);
        Check.plain(river, text + "?");
        check.due("take() behind a text with a fault", river.take(), true);
        Check.plain(river, text);
        Check.contracts(river, "let 0 a 1;");
        Seen before = Seen.of(river);
        check.due("take() of the text read anew", river.take(), false);
        check.unchanged("take()", before, river);
        check.due("cheapest() of it", river.cheapest(), 0);
        check.due("take()", river.take(), true);
        // The plain of a new object is another one than the first text's.
        RentRiver first = new RentRiver();
        first.image(0);
        Check.plain(first, text);
        first.cheapest();
        first.restore(0);
        check.due("take() in the plain of a new object", first.take(), false);
        // A plan of another plain than the latest cheapest(), which could not be.
        Check.plain(river, A + "need a 1;");
        check.due("cheapest()", river.cheapest(), -1);
        check.due("take()", river.take(), false);
    }

    /** "a step (1 to 99)", "NONE: not as told, no TOWNS" */
    private static void promise22Rounds() {
        RentRiver river = Check.full();
        Seen before = Seen.of(river);
        check.due("rounds(0)", river.rounds(0), -1);
        check.due("rounds(100)", river.rounds(100), -1);
        check.due("rounds(-1)", river.rounds(-1), -1);
        for (int far : FAR) {
            check.due("rounds(" + far + ")", river.rounds(far), -1);
        }
        check.unchanged("rounds()", before, river);
        check.due("rounds(1)", river.rounds(1) > 0, true);
        check.due("rounds(99)", river.rounds(99) > 0, true);
        check.due("rounds(1) without towns", new RentRiver().rounds(1), -1);
        check.due("rounds(1) without bids", Check.river(A).rounds(1), 1);
    }

    /** "the most worth less price (a step more, where somebody has it), above 0 (of like ones the first)" */
    private static void promise22Worth() {
        String two = A + "town b 0 9 0 9;";
        // 5 less a step of 5 is nothing; less 4 it is 1.
        RentRiver river = Check.river(two + "bid a 0 5;bid b 0 5;");
        check.due("rounds(5)", river.rounds(5), 2);
        check.due("has(0)", river.has(0), 0);
        check.due("has(1)", river.has(1), -1);
        check.due("price(0)", river.price(0), 0);
        check.due("rounds(4)", river.rounds(4), 2);
        check.due("has(0)", river.has(0), -1);
        check.due("has(1)", river.has(1), 0);
        check.due("price(0)", river.price(0), 4);
        // Like ones: month 3 of a; 7 less a step of 2 is as much as 5, and comes first.
        river = Check.river(two + "bid a 3 5;bid a 4 5;bid b 3 7;bid b 4 5;");
        check.due("rounds(2)", river.rounds(2), 3);
        check.due("has(1)", river.has(1), 3);
        check.due("has(0)", river.has(0), 4);
        check.due("price(3)", river.price(3), 2);
        check.due("price(4)", river.price(4), 0);
        // A month of 1 at 0 is taken.
        river = Check.river(A + "bid a 11 1;");
        check.due("rounds(99)", river.rounds(99), 2);
        check.due("has(0)", river.has(0), 11);
        // The purse counts nothing.
        river = Check.river("town a 0 9 0 0;bid a 11 999;");
        river.rounds(1);
        check.due("has(0)", river.has(0), 11);
    }

    /** "how many till they REST (1000 at most)" */
    private static void promise22Thousand() {
        String two = A + "town b 0 9 0 9;bid a 0 999;bid b 0 999;";
        check.due("rounds(1) of two for one month", Check.river(two).rounds(1), 501);
        String three = A + "town b 0 9 0 9;town c 0 9 0 9;bid a 0 999;bid b 0 999;bid b 1 999;bid c 1 999;";
        RentRiver river = Check.river(three);
        check.due("rounds(1), at rest in the thousandth", river.rounds(1), 1000);
        check.due("price(0)", river.price(0), 998);
        river = Check.river(three + "town d 0 9 0 9;bid c 2 999;bid d 2 999;");
        check.due("rounds(1), not at rest by then", river.rounds(1), 1000);
        check.due("price(2)", river.price(2), 667);
    }

    private static void promise23And24() {
        RentRiver river = Check.river(A + "town b 0 9 0 9;bid a 11 5;bid b 11 6;");
        check.due("has(0) ahead of any", river.has(0), -1);
        check.due("price(0) ahead of any", river.price(0), -1);
        river.rounds(0);
        check.due("price(0) behind rounds() that is NONE", river.price(0), -1);
        river.rounds(3);
        check.due("has(0) of none", river.has(0), -1);
        check.due("has(1)", river.has(1), 11);
        check.due("has(2)", river.has(2), -1);
        check.due("has(-1)", river.has(-1), -1);
        check.due("price(11)", river.price(11), 3);
        check.due("price(0)", river.price(0), 0);
        check.due("price(12)", river.price(12), -1);
        check.due("price(-1)", river.price(-1), -1);
        for (int far : FAR) {
            check.due("has(" + far + ")", river.has(far), -1);
            check.due("price(" + far + ")", river.price(far), -1);
        }
        river.offer(1, 11, 0);
        check.due("has(1) as it was", river.has(1), 11);
        check.due("rounds(100)", river.rounds(100), -1);
        check.due("has(1) of the latest that was not NONE", river.has(1), 11);
        river.rounds(3);
        check.due("has(1) of none", river.has(1), -1);
        check.due("has(0)", river.has(0), 11);
        check.due("price(11)", river.price(11), 0);
    }

    /** "for 1 to 12 MONTHS, rising: how many; NONE: not as told" */
    private static void promise25Tapes() {
        RentRiver river = Check.full();
        int[][] wrong = {{}, {0}, {0, 0, 0, 0}, {0, 0, 0, 0, 0, 1}, {12, 0, 0, 0, 0}, {255, 0, 0, 0, 0},
            {1, 0, 0, 0, 0, 1, 0, 0, 0, 0}, {1, 0, 0, 0, 0, 0, 0, 0, 0, 0}, {11, 0, 0, 0, 0, 12, 0, 0, 0, 0}};
        Seen before = Seen.of(river);
        for (int[] bytes : wrong) {
            check.due("leaks() of " + bytes.length + " bytes", Check.leaks(river, bytes), -1);
            check.unchanged("leaks()", before, river);
        }
        river = Check.river(A);
        check.due("leaks() of month 0", Check.leaks(river, 0, 0, 0), 108);
        check.due("leaks() of month 11", Check.leaks(river, 11, 0, 0), 108);
        check.due("leaks() of 0 and 11", Check.leaks(river, 0, 0, 0, 11, 0, 0), 108);
        int[] twelve = new int[36];
        for (int month = 0; month < 12; month++) {
            twelve[3 * month] = month;
        }
        check.due("leaks() of twelve months", Check.leaks(river, twelve), 108);
        int[] thirteen = java.util.Arrays.copyOf(twelve, 39);
        thirteen[36] = 12;
        check.due("leaks() of thirteen", Check.leaks(river, thirteen), -1);
        // What another tape told of a month counts nothing for this one.
        for (int month = 0; month < 11; month++) {
            check.due("leaks() of month " + month, Check.leaks(river, month, 0, 1), 0);
            check.due("leaks() of month 11 alone", Check.leaks(river, 11, 0, 0), 108);
        }
        check.due("leaks() of a level that never is", Check.leaks(river, 0, 0, 1), 0);
        check.due("leaks() of 65535", Check.leaks(river, 0, 255, 255), 0);
        // Without towns a month alone is as told, and nothing leaks.
        check.due("leaks() of nothing, no towns", new RentRiver().leaks(), -1);
        check.due("leaks() of months, no towns", Check.leaks(new RentRiver(), 0, 1, 11), 0);
        check.due("leaks() of month 12, no towns", Check.leaks(new RentRiver(), 0, 12), -1);
        check.due("leaks() of a month twice, no towns", Check.leaks(new RentRiver(), 4, 4), -1);
    }

    /** "loses n more (1 to 9; as much as there is) at the end of each MONTH" */
    private static void promise25Losses() {
        RentRiver river = Check.river("town a 0 99 0 9;water 0 20;bid a 0 1;");
        int[] levels = {20, 19, 12, 11, 10, 0};
        // 19 to 11: one n each, from month 0; 10 less there is not, and nothing is less than that.
        int[] leaks = {99, 1, 1, 1, 0, 0};
        for (int i = 0; i < levels.length; i++) {
            check.due("leaks() to " + levels[i], Check.leaks(river, 0, 0, levels[i]), leaks[i]);
        }
        // Behind month 2, 20 less 6: 2 from month 0, 3 from month 1, 6 from month 2.
        check.due("leaks() to 14", Check.leaks(river, 2, 0, 14), 3);
        leak(river, 0, 0, 0, 2);
        leak(river, 1, 0, 1, 3);
        leak(river, 2, 0, 2, 6);
        // All that there is: 7 to 9 from month 0 on, behind month 2.
        check.due("leaks() to nothing", Check.leaks(river, 2, 0, 0), 3);
        leak(river, 0, 0, 0, 7);
        leak(river, 2, 0, 0, 9);
        // Of the last month alone, and behind it all others.
        check.due("leaks() in month 11", Check.leaks(river, 10, 0, 20, 11, 0, 11), 1);
        leak(river, 0, 0, 11, 9);
        check.due("leaks() in no month", Check.leaks(river, 11, 0, 20), 0);
        check.due("leaks() behind month 10", Check.leaks(river, 10, 0, 20), 9);
        leak(river, 0, 0, 11, 1);
        // Of all ponds: the other one's must be as it is.
        river = Check.river("town a 0 99 0 9;town b 0 99 0 9;water 0 20;bid a 0 1;");
        check.due("leaks() of a", Check.leaks(river, 0, 0, 15, 0, 0), 1);
        check.due("leaks() of a, and b not as it is", Check.leaks(river, 0, 0, 15, 0, 1), 0);
    }

    /** "(behind USE and fields)" */
    private static void promise25BehindUseAndFields() {
        // 9 less 2 less 5 are 2, of which up to 2 are lost: USE and field have theirs before.
        RentRiver river = Check.river("town a 0 99 2 9;field a 5 1;water 0 9;bid a 0 1;patience 12;");
        check.due("leaks() to 2", Check.leaks(river, 0, 0, 2), 99);
        check.due("leaks() to 1", Check.leaks(river, 0, 0, 1), 1);
        check.due("leaks() to 0", Check.leaks(river, 0, 0, 0), 8);
        leak(river, 0, 0, 0, 2);
        leak(river, 7, 0, 0, 9);
        // What leaked in month 0 lacks in month 1: 16 less 2 less 5 are 9; 9 less 2 less 5 are 2.
        river = Check.river("town a 0 99 2 9;field a 5 1;water 0 16;bid a 0 1;patience 12;");
        check.due("leaks() to 2 behind month 1", Check.leaks(river, 1, 0, 2), 90);
        check.due("leaks() to 1 behind month 1", Check.leaks(river, 1, 0, 1), 2);
        // 3 from month 0: 6 are left, 2 are used, the field has not its 5, and 3 of 4 are lost.
        leak(river, 0, 0, 0, 3);
        leak(river, 1, 0, 1, 1);
        // From month 0 all but 3: the field has its 5 by 1 and 2, then 7 less n are lost.
        check.due("leaks() to 0 behind month 1", Check.leaks(river, 1, 0, 0), 8 + 8);
        leak(river, 0, 0, 0, 1);
        leak(river, 1, 0, 0, 2);
        leak(river, 2, 0, 0, 4);
        leak(river, 8, 0, 1, 2);
        // A year and what it is stays.
        check.due("year(0)", river.year(0), -1001);
    }

    private static void leak(RentRiver river, int k, int town, int month, int n) {
        check.due("leak(" + k + ", 0)", river.leak(k, 0), town);
        check.due("leak(" + k + ", 1)", river.leak(k, 1), month);
        check.due("leak(" + k + ", 2)", river.leak(k, 2), n);
    }

    /** "NONE: there is none such, more than 40 (the first 40 are told), or ahead of any" */
    private static void promise26Leak() {
        RentRiver river = Check.river("town a 0 99 0 9;town b 0 99 0 9;water 0 20;bid a 0 1;");
        check.due("leak(0, 0) ahead of any", river.leak(0, 0), -1);
        Check.leaks(river, 12, 0, 0, 0, 0);
        check.due("leak(0, 0) ahead of any that was not NONE", river.leak(0, 0), -1);
        check.due("leaks() of two", Check.leaks(river, 1, 0, 16, 0, 0), 2);
        leak(river, 1, 0, 1, 4);
        leak(river, 2, -1, -1, -1);
        leak(river, -1, -1, -1, -1);
        check.due("leak(0, 3)", river.leak(0, 3), -1);
        check.due("leak(0, -1)", river.leak(0, -1), -1);
        for (int far : FAR) {
            check.due("leak(" + far + ", 0)", river.leak(far, 0), -1);
            check.due("leak(0, " + far + ")", river.leak(0, far), -1);
        }
        check.due("leaks() that is NONE", Check.leaks(river, 1), -1);
        leak(river, 1, 0, 1, 4);
        check.due("leaks() of none", Check.leaks(river, 1, 9, 9, 0, 0), 0);
        leak(river, 0, -1, -1, -1);
        // Of b all 108, of a those behind month 8: 3 months of 9 each come first.
        check.due("leaks() of more than 40", Check.leaks(river, 8, 0, 20, 0, 0), 27 + 108);
        leak(river, 0, 0, 9, 1);
        leak(river, 26, 0, 11, 9);
        leak(river, 27, 1, 0, 1);
        leak(river, 39, 1, 1, 4);
        leak(river, 40, -1, -1, -1);
        // 36 and 45: all are told of the one, 40 of the other.
        river = Check.river("town a 0 99 0 9;water 0 20;bid a 0 1;");
        check.due("leaks() of 36", Check.leaks(river, 7, 0, 20), 36);
        leak(river, 35, 0, 11, 9);
        leak(river, 36, -1, -1, -1);
        check.due("leaks() of 45", Check.leaks(river, 6, 0, 20), 45);
        leak(river, 39, 0, 11, 4);
        leak(river, 40, -1, -1, -1);
    }

    private static void promise27Wettest() {
        RentRiver river = Check.river("town a 99 0 0 0;town b 0 0 0 0;water 4 100;water 7 101;water 9 101;");
        check.due("wettest(0)", river.wettest(0), 7);
        check.due("wettest(1)", river.wettest(1), 7);
        check.due("wettest(2)", river.wettest(2), -1);
        check.due("wettest(-1)", river.wettest(-1), -1);
        for (int far : FAR) {
            check.due("wettest(" + far + ")", river.wettest(far), -1);
        }
        check.due("wettest(0) of like ones", Check.river(A).wettest(0), 0);
        check.due("wettest(0) of month 1", Check.river(A + "water 1 1;").wettest(0), 1);
        check.due("wettest(0) of month 11", Check.river(A + "water 11 1;").wettest(0), 11);
        check.due("wettest(0) of month 0", Check.river(A + "water 0 2;water 11 2;").wettest(0), 0);
        check.due("wettest(0) without towns", new RentRiver().wettest(0), -1);
    }

    /** "The fewest MONTHS whose WATER, each less SEEP (0 at least), is a TOWN's need" */
    private static void promise28Enough() {
        String water = "water 0 6;water 5 9;water 11 7;";
        int[] needs = {0, 1, 4, 5, 6, 7, 8};
        int[] months = {0, 1, 1, 2, 2, 3, -1};
        for (int i = 0; i < needs.length; i++) {
            RentRiver river = Check.river("town a 5 0 0 0;need a " + needs[i] + ";" + water);
            check.due("enough(0) for " + needs[i], river.enough(0), months[i]);
        }
        RentRiver river = Check.river("town a 9 0 0 0;need a 1;" + water);
        check.due("enough(0), all seeping", river.enough(0), -1);
        check.due("enough(1)", river.enough(1), -1);
        check.due("enough(-1)", river.enough(-1), -1);
        for (int far : FAR) {
            check.due("enough(" + far + ")", river.enough(far), -1);
        }
        StringBuilder text = new StringBuilder("town a 1 0 0 0;need a 12;town b 1 0 0 0;need b 13;");
        for (int month = 0; month < 12; month++) {
            text.append("water ").append(month).append(" 2;");
        }
        river = Check.river(text.toString());
        check.due("enough(0) of all twelve", river.enough(0), 12);
        check.due("enough(1) of more", river.enough(1), -1);
    }

    /** "behind a whole YEAR by CONTRACTS and bids as they are", "NONE: no TOWNS" */
    private static void promise29ShoresOf() {
        check.due("shoresOf() without towns", new RentRiver().shoresOf(), -1);
        RentRiver river = Check.river("town a 0 99 1 9;town b 0 99 1 9;water 0 23;water 1 11;bid a 0 1;"
            + "bid b 1 1;patience 1;");
        // a has 23 for twelve months; b is dry in month 0 at once.
        check.due("shoresOf()", river.shoresOf(), 2);
        Check.contracts(river, "let 0 a b 0;");
        // 12 for a, 11 for b and no more, as b has month 1 too: none is dry.
        check.due("shoresOf() by contracts", river.shoresOf(), 0);
        river.offer(1, 1, 0);
        check.due("shoresOf() by bids as they are", river.shoresOf(), 2);
        river.begin();
        river.on(5);
        Seen before = Seen.of(river);
        river.shoresOf();
        check.unchanged("shoresOf()", before, river);
    }

    /** "to whose ponds less came than their need" */
    private static void promise30Thirsty() {
        check.due("thirsty() without towns", new RentRiver().thirsty(), -1);
        String plain = "town a 3 10 0 9;water 0 12;bid a 0 1;need a ";
        check.due("thirsty() of 9 for 9", Check.river(plain + "9;").thirsty(), 0);
        check.due("thirsty() of 9 for 10", Check.river(plain + "10;").thirsty(), 1);
        check.due("thirsty() of 9 for 0", Check.river(plain + "0;").thirsty(), 0);
        // What runs over has not come to the pond.
        String full = "town a 3 8 0 9;water 0 12;bid a 0 1;need a ";
        check.due("thirsty() of 8 for 8", Check.river(full + "8;").thirsty(), 0);
        check.due("thirsty() of 8 for 9", Check.river(full + "9;").thirsty(), 1);
        StringBuilder eight = new StringBuilder();
        for (int town = 0; town < 8; town++) {
            char name = (char) ('a' + town);
            eight.append("town ").append(name).append(" 0 9 0 9;need ").append(name).append(" 1;");
        }
        check.due("thirsty() of eight", Check.river(eight.toString()).thirsty(), 255);
    }

    private static void promise31BidsOf() {
        RentRiver river = Check.river(A + "town b 0 9 0 9;");
        check.due("bidsOf(0) of none", river.bidsOf(0), 0);
        for (int month = 0; month < 12; month++) {
            river.offer(1, month, 999);
        }
        check.due("bidsOf(1) of the most", river.bidsOf(1), 11988);
        check.due("bidsOf(0)", river.bidsOf(0), 0);
        check.due("bidsOf(2)", river.bidsOf(2), -1);
        check.due("bidsOf(-1)", river.bidsOf(-1), -1);
        for (int far : FAR) {
            check.due("bidsOf(" + far + ")", river.bidsOf(far), -1);
        }
    }

    private static void promise32Greatest() {
        RentRiver river = Check.river("town a 0 9 0 0;town b 0 9 0 0;bid a 0 1;bid b 0 1;bid a 1 1;bid b 1 2;"
            + "bid b 11 1;");
        check.due("greatest(0) of like ones", river.greatest(0), 0);
        check.due("greatest(1)", river.greatest(1), 1);
        check.due("greatest(11)", river.greatest(11), 1);
        check.due("greatest(2) of nobody", river.greatest(2), -1);
        check.due("greatest(12)", river.greatest(12), -1);
        check.due("greatest(-1)", river.greatest(-1), -1);
        for (int far : FAR) {
            check.due("greatest(" + far + ")", river.greatest(far), -1);
        }
        check.due("greatest(0) without towns", new RentRiver().greatest(0), -1);
    }

    private static void text(RentRiver river, String due) {
        check.due("write()", river.write(), due.length());
        for (int i = 0; i < due.length(); i++) {
            check.due("byteAt(" + i + ")", river.byteAt(i), due.charAt(i));
        }
        check.due("byteAt() behind it", river.byteAt(due.length()), -1);
    }

    /** "of each MONTH that is done", "NONE: no YEAR" */
    private static void promise33Write() {
        RentRiver river = Check.river("town abcdefgh 0 9 0 999;town z 0 9 0 999;bid z 0 9;bid z 10 10;bid z 11 99;");
        Seen before = Seen.of(river);
        check.due("write() without a year", river.write(), -1);
        check.unchanged("write()", before, river);
        Check.contracts(river, "let 1 z abcdefgh 100;let 2 abcdefgh z 999;let 3 abcdefgh 0;");
        river.begin();
        text(river, "");
        river.on(1);
        text(river, "0 z 9;");
        river.on(2);
        text(river, "0 z 9;1 z abcdefgh 100;2 abcdefgh z 999;");
        river.on(9);
        text(river, "0 z 9;1 z abcdefgh 100;2 abcdefgh z 999;3 abcdefgh 0;4 sea 0;5 sea 0;6 sea 0;7 sea 0;"
            + "8 sea 0;9 sea 0;10 z 10;11 z 99;");
        Seen written = Seen.of(river);
        river.write();
        check.unchanged("write() again", written, river);
    }

    /** "Byte i of the text made last; NONE: there is none such." */
    private static void promise34ByteAt() {
        RentRiver river = Check.river(A);
        check.due("byteAt(0) ahead of any", river.byteAt(0), -1);
        river.begin();
        river.on(2);
        river.write();
        check.due("byteAt(-1)", river.byteAt(-1), -1);
        check.due("byteAt(0)", river.byteAt(0), '0');
        check.due("byteAt(15)", river.byteAt(15), ';');
        check.due("byteAt(16)", river.byteAt(16), -1);
        for (int far : FAR) {
            check.due("byteAt(" + far + ")", river.byteAt(far), -1);
        }
        river.on(1);
        check.due("byteAt(16) of the text made last", river.byteAt(16), -1);
        Check.plain(river, A);
        check.due("write() without a year", river.write(), -1);
        check.due("byteAt(15) of the text made last", river.byteAt(15), ';');
        river.begin();
        check.due("write() of nothing", river.write(), 0);
        check.due("byteAt(0) of an empty text", river.byteAt(0), -1);
    }

    /** "NONE - 10000: no such one" */
    private static void promise35Worth() {
        RentRiver river = Check.full();
        Seen before = Seen.of(river);
        check.due("worth(2)", river.worth(2), -10001);
        check.due("worth(-1)", river.worth(-1), -10001);
        for (int far : FAR) {
            check.due("worth(" + far + ")", river.worth(far), -10001);
        }
        river.worth(0);
        river.worth(1);
        check.unchanged("worth()", before, river);
        check.due("worth(0) without towns", new RentRiver().worth(0), -10001);
        check.due("worth(0) without bids", Check.river(A).worth(0), 0);
        check.due("worth(0)", Check.river(A + "bid a 11 9;").worth(0), 9);
        check.due("worth(0) below 0", Check.river(A + "bid a 0 1;move 1;bridge a 9;").worth(0), 1 - 2 - 9);
        // By contracts alone a town is worth nothing: they stay as they are.
        river = Check.river(A);
        Check.contracts(river, "let 0 a 9;");
        check.due("worth(0) by contracts", river.worth(0), 0);
    }

    /** "an int, wrapping", "(x >>> 8) % n", "a draw of 100 more WATER, ahead of all else" */
    private static void promise36Drawn() {
        check.due("drawn(0) without towns", new RentRiver().drawn(0), -10001);
        // x of the first draw by each seed, worked out apart, then as water of month 0.
        int[] seeds = {0, 1, -1, 7, Integer.MAX_VALUE, Integer.MIN_VALUE};
        for (int seed : seeds) {
            long x = (seed * 1103515245L + 12345L) & 0xffffffffL;
            int more = (int) ((x >> 8) % 100);
            drawnMonth(seed, more);
        }
        check.due("drawn(5) of a river that stays", Check.river(A + "move 9;").drawn(5), 0);
        RentRiver river = Check.full();
        Seen before = Seen.of(river);
        river.drawn(3);
        check.unchanged("drawn()", before, river);
    }

    /** With as much USE as the draw a town pays in month 1; with one more it is a SHORE by then. */
    private static void drawnMonth(int seed, int more) {
        String bids = "bid a 0 1;bid a 1 5;patience 1;";
        RentRiver river = Check.river("town a 0 999 " + more + " 9;" + bids);
        check.due("drawn(" + seed + "), drunk whole", river.drawn(seed), 6);
        if (more < 99) {
            river = Check.river("town a 0 999 " + (more + 1) + " 9;" + bids);
            check.due("drawn(" + seed + "), one too little", river.drawn(seed), 1);
        }
        // Less SEEP, and on top of the month's own water.
        if (more >= 10) {
            river = Check.river("town a 10 999 " + (more - 10) + " 9;" + bids);
            check.due("drawn(" + seed + ") less seep", river.drawn(seed), 6);
        }
        river = Check.river("town a 90 999 " + more + " 9;water 0 90;" + bids);
        check.due("drawn(" + seed + ") and water", river.drawn(seed), 6);
    }

    /**
     * "in each MONTH a draw": a town that is dry up to a month, and in it has all that was drawn, is
     * no SHORE if it uses as much, and is one if it uses one more; a bid behind it tells which.
     */
    private static void promise36EachDraw() {
        int[] seeds = {0, 1, 2, -1, 123456789, Integer.MAX_VALUE, Integer.MIN_VALUE};
        for (int seed : seeds) {
            long x = seed & 0xffffffffL;
            for (int month = 0; month < 12; month++) {
                x = (x * 1103515245L + 12345L) & 0xffffffffL;
                int draw = (int) ((x >> 8) % 100);
                shoreByDraw(seed, month, draw, 0);
                if (draw < 99) {
                    shoreByDraw(seed, month, draw + 1, 1);
                }
            }
        }
    }

    private static void shoreByDraw(int seed, int month, int use, int shore) {
        String bid = month < 11 ? "bid a " + (month + 1) + " 5;" : "";
        RentRiver river = Check.river("town a 0 999 " + use + " 9;patience " + (month + 1) + ";" + bid);
        Check.contracts(river, "let " + month + " a 0;");
        String of = "(" + seed + "), month " + month + ", use of " + use;
        if (month < 11) {
            check.due("drawn" + of, river.drawn(seed), shore == 1 ? 0 : 5);
        } else {
            check.due("shores" + of, river.shores(0, 1, seed), shore);
        }
    }

    /** "Of n (1 to 100) YEARS DRAWN by seeds x, x and 1, ..", "NONE: no such ones" */
    private static void promise37Shores() {
        RentRiver river = Check.river("town a 0 9 1 9;town b 0 9 0 9;patience 1;");
        check.due("shores(0, 1, 5)", river.shores(0, 1, 5), 1);
        check.due("shores(0, 100, 5)", river.shores(0, 100, 5), 100);
        check.due("shores(1, 100, 5)", river.shores(1, 100, 5), 0);
        check.due("shores(0, 0, 5)", river.shores(0, 0, 5), -1);
        check.due("shores(0, 101, 5)", river.shores(0, 101, 5), -1);
        check.due("shores(2, 1, 5)", river.shores(2, 1, 5), -1);
        check.due("shores(-1, 1, 5)", river.shores(-1, 1, 5), -1);
        for (int far : FAR) {
            check.due("shores(" + far + ", 1, 5)", river.shores(far, 1, 5), -1);
            check.due("shores(0, " + far + ", 5)", river.shores(0, far, 5), -1);
        }
        check.due("shores(0, 1, 5) without towns", new RentRiver().shores(0, 1, 5), -1);
        // Seeds go on behind the greatest int.
        river = Check.river("town a 0 999 50 9;bid a 0 1;patience 1;bid a 1 1;");
        for (int seed : new int[] {0, -3, Integer.MAX_VALUE - 1, Integer.MIN_VALUE}) {
            int sum = 0;
            for (int i = 0; i < 4; i++) {
                sum += river.shores(0, 1, seed + i);
            }
            check.due("shores(0, 4, " + seed + ")", river.shores(0, 4, seed), sum);
        }
        river = Check.full();
        Seen before = Seen.of(river);
        river.shores(0, 100, 1);
        river.shores(0, 101, 1);
        check.unchanged("shores()", before, river);
    }

    /** "(1 to 999 ..)", "of like ones the first", "NONE: nothing is enough, no such ones" */
    private static void promise38Must() {
        String two = "town a 0 9 0 999;town b 0 9 0 999;";
        check.due("must(0, 0) against nobody", Check.river(two).must(0, 0), 1);
        RentRiver river = Check.river(two + "bid a 0 998;");
        check.due("must(1, 0) against 998", river.must(1, 0), 999);
        check.due("must(0, 0) against nobody else", river.must(0, 0), 1);
        river = Check.river(two + "bid a 0 999;");
        check.due("must(1, 0) against 999", river.must(1, 0), -1);
        river = Check.river(two + "bid b 0 999;");
        check.due("must(0, 0) against 999, as the first", river.must(0, 0), 999);
        check.due("must(0, 11)", river.must(0, 11), 1);
        check.due("must(0, 12)", river.must(0, 12), -1);
        check.due("must(0, -1)", river.must(0, -1), -1);
        check.due("must(2, 0)", river.must(2, 0), -1);
        check.due("must(-1, 0)", river.must(-1, 0), -1);
        for (int far : FAR) {
            check.due("must(" + far + ", 0)", river.must(far, 0), -1);
            check.due("must(0, " + far + ")", river.must(0, far), -1);
        }
        river = Check.full();
        Seen before = Seen.of(river);
        river.must(0, 5);
        river.must(1, 11);
        check.unchanged("must()", before, river);
    }

    private static void promise38OnePurseMore() {
        // A purse of just as much, and of one less.
        String other = "town b 0 9 0 9;bid b 0 5;";
        check.due("must(0, 0) with 5", Check.river("town a 0 9 0 5;" + other).must(0, 0), 5);
        check.due("must(0, 0) with 4", Check.river("town a 0 9 0 4;" + other).must(0, 0), -1);
        check.due("must(0, 0) with nothing", Check.river("town a 0 9 0 0;").must(0, 0), -1);
        check.due("must(0, 0) with 1", Check.river("town a 0 9 0 1;").must(0, 0), 1);
        // A bid that its own purse has not counts nothing, one that it just has does.
        check.due("must(0, 0) against a poor one",
            Check.river("town a 0 9 0 9;town b 0 9 0 4;bid b 0 5;").must(0, 0), 1);
        check.due("must(0, 0) against all it has",
            Check.river("town a 0 9 0 9;town b 0 9 0 5;bid b 0 5;").must(0, 0), 5);
        // A shore's bid counts nothing, and a shore has nothing let to it.
        RentRiver river = Check.river("town a 0 9 0 9;town b 0 9 1 9;bid b 2 5;bid b 1 4;patience 2;");
        check.due("must(0, 1)", river.must(0, 1), 4);
        check.due("must(0, 2)", river.must(0, 2), 1);
        check.due("must(1, 2)", river.must(1, 2), -1);
        // Mills of months ahead count.
        river = Check.river("town a 0 9 0 1;town b 0 9 0 9;mill a 4;bid a 0 1;bid b 1 4;bid b 2 5;");
        check.due("must(0, 1) by its mill", river.must(0, 1), 4);
        check.due("must(0, 2)", river.must(0, 2), -1);
    }

    /** "in a YEAR with the CONTRACTS", "let to it alone" */
    private static void promise38Contracts() {
        RentRiver river = Check.river("town a 0 9 0 9;town b 0 9 0 9;bid b 1 5;");
        Check.contracts(river, "let 0 b 5;let 2 a b 0;let 3 a 9;let 4 a 1;sea 5;");
        check.due("must(0, 0) of another's", river.must(0, 0), -1);
        // b paid 5 of 9 in month 0 and has not its 5 in month 1.
        check.due("must(0, 1)", river.must(0, 1), 1);
        check.due("must(0, 2) shared", river.must(0, 2), -1);
        check.due("must(1, 2) shared", river.must(1, 2), -1);
        check.due("must(0, 3) of its own", river.must(0, 3), 1);
        check.due("must(0, 4) of its own, unpaid", river.must(0, 4), -1);
        check.due("must(0, 5) of the sea", river.must(0, 5), -1);
        // The year that is now counts nothing.
        river.begin();
        river.on(12);
        check.due("must(0, 1)", river.must(0, 1), 1);
    }

    /** "-1 less the place of a FAULT: it stays", "none behind a new PLAIN" */
    private static void promise39Sentence() {
        RentRiver river = Check.full();
        Seen before = Seen.of(river);
        check.due("sentence() of nothing", Check.sentence(river, ""), -1);
        check.unchanged("sentence()", before, river);
        check.due("sentence() with a fault at its end", Check.sentence(river, "shore and not"), -14);
        check.unchanged("sentence()", before, river);
        check.due("sentence() with a fault at 200", Check.sentence(river, "shore" + Check.times(" ", 196)), -201);
        check.unchanged("sentence()", before, river);
        check.due("sentence() of one", Check.sentence(river, "place = 1"), 1);
        check.due("said(-1)", river.said(-1), 1);
        check.due("said(0)", river.said(0), 1);
        check.due("sentence() without towns", Check.sentence(new RentRiver(), "(not shore)"), 3);
        Check.plain(river, A);
        river.begin();
        check.due("said(-1) behind a new plain", river.said(-1), -1);
    }

    /** "NONE: there is no SENTENCE, no YEAR, none such" */
    private static void promise40Said() {
        RentRiver river = Check.river(A + "town b 0 9 0 9;town c 0 9 0 9;");
        check.due("said(-1) with neither", river.said(-1), -1);
        Check.sentence(river, "not place = 1");
        check.due("said(-1) without a year", river.said(-1), -1);
        check.due("said(0) without a year", river.said(0), -1);
        river.begin();
        check.due("said(-1)", river.said(-1), 2);
        check.due("said(0)", river.said(0), 0);
        check.due("said(1)", river.said(1), 2);
        check.due("said(2)", river.said(2), -1);
        check.due("said(-2)", river.said(-2), -1);
        for (int far : FAR) {
            check.due("said(" + far + ")", river.said(far), -1);
        }
        Check.sentence(river, "place > 2");
        check.due("said(-1) of none", river.said(-1), 0);
        check.due("said(0) of none", river.said(0), -1);
        river = Check.river(A);
        river.begin();
        check.due("said(-1) without a sentence", river.said(-1), -1);
    }

    private static void says(RentRiver river, String text, int due) {
        check.due("sentence() of '" + text + "'", Check.sentence(river, text), 1);
        check.due("'" + text + "' of how many", river.said(-1), due);
    }

    /** SIGN: < = >, at the number and beside it, of each measure. */
    private static void promise40Signs() {
        // Ponds 7, 4, 1, 0 from month 1 on, 5 and 2 from month 10 on: green for 3 and for 2 months,
        // dry in 0 and in 5 to 9. The purse: 20 less 5, two mills of 2, a harvest of 3.
        RentRiver river = Check.river("town a 0 99 1 20;water 1 10;water 10 8;bid a 1 3;bid a 10 2;"
            + "field a 2 1;mill a 2;patience 12;need a 18;");
        river.begin();
        river.on(12);
        String[] words = {"pond", "purse", "paid", "dry", "lets", "green", "place"};
        int[] values = {river.town(0, 0), river.town(0, 1), river.town(0, 5), river.town(0, 7),
            river.town(0, 4), river.town(0, 8), 0};
        int[] due = {2, 22, 5, 6, 2, 3, 0};
        for (int i = 0; i < words.length; i++) {
            check.due(words[i], values[i], due[i]);
            says(river, words[i] + " = " + due[i], 1);
            says(river, words[i] + " < " + due[i], 0);
            says(river, words[i] + " > " + due[i], 0);
            says(river, words[i] + " = " + (due[i] + 1), 0);
            says(river, words[i] + " < " + (due[i] + 1), 1);
            says(river, words[i] + " > " + (due[i] + 1), 0);
            if (due[i] > 0) {
                says(river, words[i] + " = " + (due[i] - 1), 0);
                says(river, words[i] + " < " + (due[i] - 1), 0);
                says(river, words[i] + " > " + (due[i] - 1), 1);
            }
        }
        says(river, "thirsty", 0);
        says(river, "shore", 0);
        river = Check.river("town a 0 99 1 20;water 1 10;bid a 1 3;patience 12;need a 11;");
        river.begin();
        river.on(12);
        says(river, "thirsty", 1);
    }

    /** "in place k (0, 1)", "false: no such one, or nothing is kept there" */
    private static void promise41And42() {
        RentRiver river = Check.full();
        Seen before = Seen.of(river);
        check.due("restore(0) of nothing", river.restore(0), false);
        check.due("restore(1) of nothing", river.restore(1), false);
        check.due("image(2)", river.image(2), false);
        check.due("image(-1)", river.image(-1), false);
        check.due("restore(2)", river.restore(2), false);
        check.due("restore(-1)", river.restore(-1), false);
        for (int far : FAR) {
            check.due("image(" + far + ")", river.image(far), false);
            check.due("restore(" + far + ")", river.restore(far), false);
        }
        check.unchanged("image() and restore()", before, river);
        check.due("image(1)", river.image(1), true);
        check.unchanged("image(1)", before, river);
        check.due("restore(0) of nothing", river.restore(0), false);
        // A restore() that is refused leaves what can be undone, an image() too.
        river.offer(0, 9, 4);
        river.image(2);
        river.restore(0);
        river.image(0);
        check.due("undo()", river.undo(), 0);
        river.offer(0, 9, 4);
        river.on(12);
        check.due("restore(1)", river.restore(1), true);
        check.unchanged("what was done behind image(1)", before, river);
        check.due("undo() behind restore()", river.undo(), -1);
        check.due("bid(0, 9)", river.bid(0, 9), 0);
        check.due("restore(1) again", river.restore(1), true);
        check.unchanged("restore(1) again", before, river);
        check.due("restore(0)", river.restore(0), true);
        check.due("bid(0, 9) as kept in place 0", river.bid(0, 9), 4);
    }

    /** Eight towns, forty bids, twelve months of each row, all of them told by a number of their own. */
    private static RentRiver all(int seed) {
        StringBuilder plain = new StringBuilder("move 1;fish 500;patience 12;");
        for (int month = 0; month < 12; month++) {
            plain.append("water ").append(month).append(' ').append(seed + 3 * month).append(';');
        }
        for (int town = 0; town < 8; town++) {
            char name = (char) ('a' + town);
            plain.append("town ").append(name).append(' ').append(town).append(" 99 ").append(seed % 5 + 1);
            plain.append(" 9").append(town).append(";mill ").append(name).append(' ').append(seed + town);
            plain.append(";field ").append(name).append(" 1 ").append(town + 1).append(';');
        }
        RentRiver river = Check.river(plain.toString());
        for (int i = 0; i < 40; i++) {
            check.due("offer()", river.offer(i % 8, i % 12, seed + i), true);
        }
        StringBuilder deals = new StringBuilder();
        for (int month = 1; month < 12; month += 2) {
            deals.append("let ").append(month).append(' ').append((char) ('a' + month % 8)).append(' ');
            deals.append((char) ('a' + (month + seed) % 8)).append(' ').append(seed + month).append(';');
        }
        check.due("contracts()", Check.contracts(river, deals.toString()), 6);
        check.due("sentence()", Check.sentence(river, "purse > " + (90 + seed) + " or place > 5"), 2);
        river.begin();
        river.on(12);
        return river;
    }

    /** "They are as kept in place k": of the last town and the last month, too. */
    private static void promise42AllTownsAndMonths() {
        RentRiver river = all(2);
        Seen before = Seen.of(river);
        check.due("image(1)", river.image(1), true);
        Check.plain(river, "");
        check.due("restore(1) over nothing", river.restore(1), true);
        check.unchanged("an empty plain", before, river);
        // Nothing of it shines through where an object had more than the image tells.
        RentRiver other = all(3);
        other.image(0);
        RentRiver bare = Check.river("town a 0 9 0 9;");
        bare.begin();
        bare.on(12);
        Check.plain(other, "town a 0 9 0 9;");
        other.begin();
        other.on(12);
        check.unchanged("an image kept", Seen.of(bare), other);
        other.image(1);
        other.restore(0);
        check.unchanged("a bare plain", Seen.of(all(3)), other);
        other.restore(1);
        check.unchanged("a full one", Seen.of(bare), other);
        other.restore(0);
        check.unchanged("a bare plain", Seen.of(all(3)), other);
    }

    private static void promise43Count() {
        RentRiver river = Check.full();
        int[] due = {2, 3, 2, 9, 4, 2, 0};
        for (int what = 0; what < due.length; what++) {
            check.due("count(" + what + ")", river.count(what), due[what]);
        }
        check.due("count(7)", river.count(7), -1);
        check.due("count(-1)", river.count(-1), -1);
        for (int far : FAR) {
            check.due("count(" + far + ")", river.count(far), -1);
        }
        int[] none = {0, 0, 0, 0, 3, 0, 0};
        for (int what = 0; what < none.length; what++) {
            check.due("count(" + what + ") of a new object", new RentRiver().count(what), none[what]);
        }
        // Fish of the plain, not of the year.
        check.due("year(3)", river.year(3), 7);
        check.due("count(3)", river.count(3), 9);
    }
}

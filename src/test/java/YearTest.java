/** Promises 13 to 18, 29, 30, 33 and 34: a YEAR, month by month, and its text. */
public final class YearTest {
    private static final Check check = new Check();

    public static void main(String[] args) {
        beginning();
        wrongAsks();
        lettingByBids();
        moving();
        pouring();
        drying();
        aShoreForGood();
        fields();
        wholeYears();
        writing();
        check.end();
    }

    private static void year(RentRiver river, int... due) {
        for (int what = 0; what < due.length; what++) {
            check.due("year(" + what + ")", river.year(what), due[what]);
        }
    }

    private static void town(RentRiver river, int town, int... due) {
        for (int what = 0; what < due.length; what++) {
            check.due("town(" + town + ", " + what + ")", river.town(town, what), due[what]);
        }
    }

    private static void beginning() {
        RentRiver river = new RentRiver();
        check.due("begin() without towns", river.begin(), false);
        check.due("on(0) without a year", river.on(0), -1);
        river = Check.river("town a 1 9 1 7;fish 8;water 0 5;bid a 0 3;");
        check.due("on(1) without a year", river.on(1), -1);
        check.due("begin()", river.begin(), true);
        year(river, 0, 8, 0, 8, 0, 0, 0, 0, 0, 0, 0);
        town(river, 0, 0, 7, 0, 0, 0, 0, 0, 0, 0, 0);
        check.due("on(0)", river.on(0), 0);
        check.due("on(13)", river.on(13), -1);
        check.due("on(-1)", river.on(-1), -1);
        check.due("on(5)", river.on(5), 5);
        check.due("on(12)", river.on(12), 7);
        check.due("on(12)", river.on(12), 0);
        check.due("begin() again", river.begin(), true);
        year(river, 0, 8, 0, 8, 0, 0, 0, 0, 0, 0, 0);
        town(river, 0, 0, 7, 0, 0, 0, 0, 0, 0, 0, 0);
        check.due("droughts()", river.droughts(), 0);
        river = Check.river("town a 1 2 1 7;fish 8;water 0 5;water 1 9;bid a 0 3;move 2;bridge a 1;");
        for (int i = 0; i < 2; i++) {
            river.begin();
            year(river, 0, 8, 0, 8, 0, 0, 0, 0, 0, 0, 0);
            river.on(1);
            year(river, 1, 0, 0, 7, 5, 1, 1, 2, 1, 1, 3);
            river.on(1);
            year(river, 2, 8, -2, 6, 14, 2, 1, 11, 0, 1, 5);
        }
        river.begin();
        river.on(1);
        river.begin();
        year(river, 0, 8, 0, 8, 0, 0, 0, 0, 0, 0, 0);
        Check.contracts(river, "sea 0;");
        river.begin();
        river.on(12);
        check.due("droughts()", river.droughts(), 4095);
        river.begin();
        check.due("droughts()", river.droughts(), 0);
        // What a year before told of its months is not told of this one.
        Check.contracts(river, "let 0 a 99;");
        river.begin();
        river.on(1);
        check.due("let(0, 0)", river.let(0, 0), 8);
        check.due("let(0, 2)", river.let(0, 2), 0);
    }

    private static void wrongAsks() {
        RentRiver river = Check.river("town a 1 9 1 7;");
        check.due("year(0)", river.year(0), -1001);
        check.due("town(0, 0)", river.town(0, 0), -1);
        check.due("let(0, 0)", river.let(0, 0), -1);
        check.due("droughts()", river.droughts(), -1);
        check.due("write()", river.write(), -1);
        river.begin();
        river.on(3);
        check.due("year(11)", river.year(11), -1001);
        check.due("year(-1)", river.year(-1), -1001);
        check.due("town(1, 0)", river.town(1, 0), -1);
        check.due("town(-1, 0)", river.town(-1, 0), -1);
        check.due("town(0, 10)", river.town(0, 10), -1);
        check.due("town(0, -1)", river.town(0, -1), -1);
        check.due("let(2, 0)", river.let(2, 0), 8);
        check.due("let(2, 1)", river.let(2, 1), -1);
        check.due("let(2, 2)", river.let(2, 2), 0);
        check.due("let(3, 0)", river.let(3, 0), -1);
        check.due("let(-1, 0)", river.let(-1, 0), -1);
        check.due("let(12, 0)", river.let(12, 0), -1);
        check.due("let(0, 3)", river.let(0, 3), -1);
        check.due("let(0, -1)", river.let(0, -1), -1);
    }

    private static void lettingByBids() {
        // Month 0: like bids, the first one; 1: the greatest; 2: the greatest that a purse has;
        // 3: a purse just as large; 4: the one purse left; 5: beyond that purse; 6: no bids.
        RentRiver river = Check.river("town a 0 9 0 10;town b 0 9 0 20;"
            + "bid a 0 4;bid b 0 4;bid a 1 1;bid b 1 2;bid a 2 7;bid b 2 5;bid a 3 6;bid b 3 3;"
            + "bid a 4 12;bid b 4 11;bid b 5 3;");
        river.begin();
        river.on(12);
        int[] due = {0, 1, 1, 0, 1, 8, 8};
        int[] paid = {4, 2, 5, 6, 11, 0, 0};
        for (int month = 0; month < due.length; month++) {
            check.due("let(" + month + ", 0)", river.let(month, 0), due[month]);
            check.due("let(" + month + ", 2)", river.let(month, 2), paid[month]);
        }
        check.due("town(0, 1)", river.town(0, 1), 0);
        check.due("town(1, 1)", river.town(1, 1), 2);
        check.due("town(0, 4)", river.town(0, 4), 2);
        check.due("town(1, 5)", river.town(1, 5), 18);
        check.due("year(2)", river.year(2), 28);
        check.due("year(9)", river.year(9), 5);
        check.due("droughts()", river.droughts(), 4095 - 31);
    }

    private static void moving() {
        RentRiver river = Check.river("town a 0 9 0 99;town b 0 9 0 99;town c 0 9 0 99;"
            + "move 10;fish 6;bridge a 1;bridge b 2;bridge c 4;");
        Check.contracts(river, "let 0 a 0;let 1 a 50;let 2 b c 0;let 3 c 0;let 4 c b 0;let 5 a b 0;"
            + "sea 6;sea 7;let 8 c 0;");
        river.begin();
        // From the sea, three places; then nothing; a to b, and both bridges; b to c, where it was.
        int[] moves = {31, 31, 47, 57, 59, 80, 110, 110, 124};
        int[] lies = {0, 0, 1, 2, 2, 0, 8, 8, 2};
        int[] fish = {3, 3, 2, 1, 1, 0, 0, 0, 0};
        for (int month = 0; month < moves.length; month++) {
            river.on(1);
            check.due("year(10) behind " + month, river.year(10), moves[month]);
            check.due("year(1) behind " + month, river.year(1), lies[month]);
            check.due("year(3) behind " + month, river.year(3), fish[month]);
            check.due("year(2) behind " + month, river.year(2), (month > 0 ? 50 : 0) - moves[month]);
        }
    }

    private static void pouring() {
        RentRiver river = Check.river("town a 7 20 0 0;town b 3 999 0 0;mill a 5;mill b 6;"
            + "water 0 5;water 1 20;water 2 20;water 3 31;water 4 9;");
        Check.contracts(river, "let 0 a 0;let 1 a 0;let 2 a 0;let 3 b a 0;");
        river.begin();
        river.on(1);
        town(river, 0, 0, 5, 0, 0, 1, 0, 0);
        year(river, 1, 0, 0, 0, 5, 0, 5, 0, 0, 1);
        river.on(2);
        // 13 come, then 7 of 13: the pond is full, and 6 run over.
        town(river, 0, 20, 15, 0, 0, 3, 0, 20);
        year(river, 3, 0, 0, 0, 45, 0, 19, 6, 20, 3);
        river.on(1);
        // 16 for b, of which 3 seep; 15 for a, of which 7 seep and 8 run over.
        town(river, 0, 20, 20, 0, 0, 4, 0, 20);
        town(river, 1, 13, 6, 0, 0, 1, 0, 13);
        year(river, 4, 1, 0, 0, 76, 0, 29, 14, 33, 4);
        river.on(1);
        year(river, 5, 8, 0, 0, 85, 0, 29, 23, 33, 4);
    }

    private static void drying() {
        RentRiver river = Check.river("town a 0 99 5 9;water 1 7;water 2 3;bid a 1 1;bid a 2 1;"
            + "patience 3;");
        river.begin();
        int[] pond = {0, 2, 0, 0, 0, 0};
        int[] row = {1, 0, 0, 1, 2, 3};
        int[] all = {1, 1, 1, 2, 3, 4};
        int[] used = {0, 5, 10, 10, 10, 10};
        for (int month = 0; month < pond.length; month++) {
            river.on(1);
            check.due("town(0, 0) behind " + month, river.town(0, 0), pond[month]);
            check.due("town(0, 2) behind " + month, river.town(0, 2), row[month]);
            check.due("town(0, 7) behind " + month, river.town(0, 7), all[month]);
            check.due("town(0, 3) behind " + month, river.town(0, 3), month == 5 ? 1 : 0);
            check.due("year(5) behind " + month, river.year(5), used[month]);
        }
        RentRiver noUse = Check.river("town a 0 99 0 9;patience 1;");
        noUse.begin();
        noUse.on(12);
        check.due("town(0, 7) without use", noUse.town(0, 7), 0);
        check.due("town(0, 3) without use", noUse.town(0, 3), 0);
    }

    private static void aShoreForGood() {
        RentRiver river = Check.river("town a 0 99 5 99;town b 0 99 0 99;water 1 3;water 2 90;"
            + "bid a 1 1;bid a 2 9;bid b 2 1;bid a 3 9;mill a 7;patience 2;");
        Check.contracts(river, "let 4 a 0;let 5 b a 1;");
        river.begin();
        river.on(2);
        town(river, 0, 0, 105, 2, 1, 1, 1, 3, 2);
        river.on(10);
        int[] letTo = {8, 0, 1, 8, 8, 8};
        for (int month = 0; month < letTo.length; month++) {
            check.due("let(" + month + ", 0)", river.let(month, 0), letTo[month]);
        }
        town(river, 0, 0, 105, 12, 1, 1, 1, 3, 12);
        year(river, 12, 8, 2, 0, 93, 3, 0, 0, 90, 2);
    }

    private static void fields() {
        // Behind use the pond has 8, 6, 4, 2, 0: the field takes 2 as long as there are 2.
        RentRiver river = Check.river("town a 0 99 1 9;town b 0 99 0 9;field a 2 99;field b 0 9;"
            + "water 0 10;bid a 0 1;water 5 9;bid a 5 1;patience 12;");
        river.begin();
        int[] pond = {7, 4, 1, 0, 0, 6, 3, 0, 0, 0, 0, 0};
        int[] green = {1, 2, 3, 3, 3, 3, 3, 3, 3, 3, 3, 3};
        for (int month = 0; month < pond.length; month++) {
            check.due("town(0, 9) ahead of the end", river.town(0, 9), 0);
            river.on(1);
            check.due("town(0, 0) behind " + month, river.town(0, 0), pond[month]);
            check.due("town(0, 8) behind " + month, river.town(0, 8), green[month]);
        }
        town(river, 0, 0, 304, 4, 0, 2, 2, 19, 5, 3, 297);
        town(river, 1, 0, 9, 0, 0, 0, 0, 0, 0, 0, 0);
        check.due("year(5)", river.year(5), 19);
        check.due("year(2)", river.year(2), 2);
    }

    private static void wholeYears() {
        RentRiver river = new RentRiver();
        check.due("shoresOf() without towns", river.shoresOf(), -1);
        check.due("thirsty() without towns", river.thirsty(), -1);
        river = Check.river("town a 0 99 0 9;water 3 50;bid a 3 1;need a 50;");
        check.due("thirsty() of one that has just enough", river.thirsty(), 0);
        river = Check.river("town a 0 99 1 9;town b 0 10 0 9;town c 0 99 9 9;need a 1;need b 11;need c 0;"
            + "water 3 50;bid b 3 1;patience 12;");
        check.due("thirsty(), as 10 alone come to b", river.thirsty(), 3);
        check.due("shoresOf()", river.shoresOf(), 5);
        check.due("no year by it", river.year(0), -1001);
        Check.contracts(river, "let 3 a 0;");
        check.due("shoresOf() by contracts", river.shoresOf(), 4);
        check.due("thirsty() by contracts", river.thirsty(), 2);
        river.begin();
        river.on(4);
        river.offer(2, 3, 5);
        check.due("shoresOf() in a year", river.shoresOf(), 4);
        check.due("the year stays", river.year(0), 4);
        river.contracts();
        check.due("shoresOf() by the bids now", river.shoresOf(), 1);
        check.due("thirsty() by the bids now", river.thirsty(), 3);
    }

    private static void writing() {
        RentRiver river = Check.river("town abcdefgh 0 9 0 999;town z 0 9 0 999;bid z 11 7;");
        check.due("byteAt(0) ahead of any", river.byteAt(0), -1);
        Check.contracts(river, "let 1 abcdefgh 999;let 10 z abcdefgh 100;let 9 z 10;");
        river.begin();
        check.due("write() of no month", river.write(), 0);
        check.due("byteAt(0)", river.byteAt(0), -1);
        river.on(2);
        String two = "0 sea 0;1 abcdefgh 999;";
        check.due("write()", river.write(), two.length());
        check.due("the text of two months", Check.written(river).equals(two), true);
        river.on(10);
        String all = two + "2 sea 0;3 sea 0;4 sea 0;5 sea 0;6 sea 0;7 sea 0;8 sea 0;9 z 10;"
            + "10 sea 0;11 z 7;";
        check.due("the text of the year", Check.written(river).equals(all), true);
        check.due("byteAt() behind its end", river.byteAt(all.length()), -1);
        check.due("byteAt(-1)", river.byteAt(-1), -1);
        Check.contracts(river, "let 0 z 9;let 1 z 10;let 2 z 99;let 3 z 100;");
        river.begin();
        river.on(4);
        check.due("numbers of one to three digits",
            Check.written(river).equals("0 z 9;1 z 10;2 z 99;3 z 100;"), true);
        Check.plain(river, "town yyyyyyyy 0 9 0 999;town xxxxxxxx 0 9 0 999;");
        check.due("write() without a year", river.write(), -1);
        check.due("byteAt(0) of the text made last", river.byteAt(0), '0');
        StringBuilder text = new StringBuilder();
        StringBuilder due = new StringBuilder();
        for (int month = 0; month < 12; month++) {
            text.append("let ").append(month).append(" xxxxxxxx yyyyyyyy 100;");
            due.append(month).append(" xxxxxxxx yyyyyyyy 100;");
        }
        Check.contracts(river, text.toString());
        river.begin();
        river.on(12);
        check.due("the longest text", Check.written(river).equals(due.toString()), true);
    }
}

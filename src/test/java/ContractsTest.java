/** Promises 11 and 12, and how a YEAR keeps to CONTRACTS. */
public final class ContractsTest {
    private static final Check check = new Check();
    private static final String TOWNS = "town a 0 99 0 9;town b 0 99 0 9;town c 0 99 0 9;";

    public static void main(String[] args) {
        whatIsTold();
        faults();
        aFaultLeavesThem();
        lettingByThem();
        halves();
        check.end();
    }

    private static void row(RentRiver river, int month, int town, int other, int sum) {
        check.due("contract(" + month + ", 0)", river.contract(month, 0), town);
        check.due("contract(" + month + ", 1)", river.contract(month, 1), other);
        check.due("contract(" + month + ", 2)", river.contract(month, 2), sum);
    }

    private static void whatIsTold() {
        RentRiver river = Check.river(TOWNS);
        check.due("contracts() of nothing", river.contracts(), 0);
        check.due("contracts()", Check.contracts(river, "let 0 a 999;let 11 c\na 0;sea 5;"), 3);
        row(river, 0, 0, -1, 999);
        row(river, 11, 2, 0, 0);
        row(river, 5, 8, -1, 0);
        row(river, 1, -1, -1, -1);
        row(river, 12, -1, -1, -1);
        row(river, -1, -1, -1, -1);
        check.due("contract(0, 3)", river.contract(0, 3), -1);
        check.due("contract(0, -1)", river.contract(0, -1), -1);
        check.due("count(5)", river.count(5), 3);
        check.due("contracts() of another text", Check.contracts(river, "sea 0;"), 1);
        row(river, 0, 8, -1, 0);
        row(river, 11, -1, -1, -1);
        StringBuilder all = new StringBuilder();
        for (int month = 0; month < 12; month++) {
            all.append("let ").append(month).append(" b c ").append(month * 9).append(";");
        }
        check.due("contracts() for all months", Check.contracts(river, all.toString()), 12);
        row(river, 7, 1, 2, 63);
        RentRiver empty = new RentRiver();
        check.due("contracts() without towns", Check.contracts(empty, "sea 3;"), 1);
    }

    private static void fault(String text, int kind, int place) {
        RentRiver river = Check.river(TOWNS);
        check.fault(river, text, Check.contracts(river, text), kind, place);
    }

    private static void faults() {
        fault("let", 1, 3);
        fault("let 1 a 1", 1, 9);
        fault("let a 1 1;", 1, 4);
        fault("let 1 1;", 1, 6);
        fault("let 1 a b;", 1, 9);
        fault("let 1 a b c 1;", 1, 10);
        fault("let 1 a sea 1;", 1, 8);
        fault("let 1 sea 1;", 1, 6);
        fault("let 1 a 1000;", 1, 8);
        fault("town x 1 1 1 1;", 1, 0);
        fault("x", 1, 0);
        fault("sea 1 1;", 1, 6);
        fault("sea a;", 1, 4);
        fault("let 12 a 1;", 2, 4);
        fault("sea 12;", 2, 4);
        fault("let 1 d 1;", 3, 6);
        fault("let 1 a d 1;", 3, 8);
        fault("let 1 a a 1;", 3, 8);
        fault("let 1 a 1;let 1 b", 3, 14);
        fault("sea 1;let 1 b", 3, 10);
        fault("let 1 a 1;sea 1;", 3, 14);
        fault("sea 1;" + Check.times(" ", 395), 1, 400);
        fault("sea 1;" + Check.times(" ", 390) + "sea 1;", 1, 400);
        fault("sea 1;" + Check.times(" ", 389) + "sea 12", 2, 399);
        RentRiver river = new RentRiver();
        check.due("400 bytes", Check.contracts(river, "sea 1;" + Check.times(" ", 394)), 1);
    }

    private static void aFaultLeavesThem() {
        RentRiver river = Check.river(TOWNS);
        Check.contracts(river, "let 3 b 4;");
        check.due("contracts() with a fault", Check.contracts(river, "sea 4;sea 3;let"), -16);
        row(river, 3, 1, -1, 4);
        row(river, 4, -1, -1, -1);
        check.due("count(5)", river.count(5), 1);
        river.begin();
        river.on(1);
        Check.contracts(river, "sea 5;");
        check.due("the year goes on", river.year(0), 1);
    }

    private static void let(RentRiver river, int month, int town, int other, int paid) {
        check.due("let(" + month + ", 0)", river.let(month, 0), town);
        check.due("let(" + month + ", 1)", river.let(month, 1), other);
        check.due("let(" + month + ", 2)", river.let(month, 2), paid);
    }

    private static void halves() {
        // Each must have its own half, and no more.
        String[] texts = {"town a 0 9 0 3;town b 0 9 0 2;", "town a 0 9 0 2;town b 0 9 0 99;",
            "town a 0 9 0 99;town b 0 9 0 1;", "town a 0 9 0 2;town b 0 9 0 3;"};
        boolean[] pays = {true, false, false, false};
        for (int i = 0; i < texts.length; i++) {
            RentRiver river = Check.river(texts[i]);
            Check.contracts(river, "let 0 a b 5;");
            river.begin();
            river.on(1);
            let(river, 0, pays[i] ? 0 : 8, pays[i] ? 1 : -1, pays[i] ? 5 : 0);
            check.due("year(2)", river.year(2), pays[i] ? 5 : 0);
            check.due("town(0, 5)", river.town(0, 5), pays[i] ? 3 : 0);
            check.due("town(1, 5)", river.town(1, 5), pays[i] ? 2 : 0);
        }
        // A shore shares nothing, first or second.
        RentRiver river = Check.river("town a 0 9 1 9;town b 0 9 0 9;patience 1;");
        Check.contracts(river, "let 1 a b 0;let 2 b a 0;");
        river.begin();
        river.on(3);
        let(river, 1, 8, -1, 0);
        let(river, 2, 8, -1, 0);
    }

    private static void lettingByThem() {
        RentRiver river = Check.river("town a 1 99 0 9;town b 2 99 0 9;town c 0 99 1 99;"
            + "bid a 0 1;bid a 3 1;bid c 4 5;water 1 21;water 6 21;patience 2;");
        Check.contracts(river, "sea 0;let 1 b a 5;let 2 a 7;let 3 a 6;let 5 c 1;let 6 a b 13;"
            + "let 7 a b 7;");
        river.begin();
        check.due("on(12)", river.on(12), 12);
        let(river, 0, 8, -1, 0);
        // The first one pays the greater half and has the greater half of the water.
        let(river, 1, 1, 0, 5);
        let(river, 2, 0, -1, 7);
        // The purse of a is empty: where CONTRACTS tell, bids don't.
        let(river, 3, 8, -1, 0);
        // c has been dry for two months and is a shore.
        let(river, 4, 8, -1, 0);
        let(river, 5, 8, -1, 0);
        let(river, 6, 8, -1, 0);
        let(river, 7, 8, -1, 0);
        check.due("town(0, 5)", river.town(0, 5), 9);
        check.due("town(1, 5)", river.town(1, 5), 3);
        check.due("town(0, 6)", river.town(0, 6), 9);
        check.due("town(1, 6)", river.town(1, 6), 9);
        check.due("town(2, 3)", river.town(2, 3), 1);
        check.due("town(0, 4)", river.town(0, 4), 2);
        check.due("year(9)", river.year(9), 2);
        check.due("year(6)", river.year(6), 3);
        check.due("year(7)", river.year(7), 21);
        check.due("droughts()", river.droughts(), 4095 - 6);
    }
}

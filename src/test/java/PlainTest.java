import java.util.NoSuchElementException;

/** Promises 4 to 7 and 10: a PLAIN's text, its FAULTS, what it tells. */
public final class PlainTest {
    private static final Check check = new Check();
    private static final String A = "town a 1 1 1 1;";

    public static void main(String[] args) {
        whatIsTold();
        whatIsNotTold();
        faultsOfTokens();
        faultsOfNumbers();
        faultsOfNames();
        faultsOfMany();
        faultsOfLength();
        aFaultLeavesThePlain();
        aNewPlainForgets();
        textsReadAgainAndAgain();
        check.end();
    }

    private static void whatIsTold() {
        RentRiver river = new RentRiver();
        check.due("plain() of nothing", river.plain(), 0);
        check.due("plain() of blanks", Check.plain(river, " \n "), 0);
        int rows = Check.plain(river, "town\nabcdefgh 99 999 99 999 ;town b 0 0 0 0;water 0 999;"
            + "water 11 7;bid abcdefgh 0 999;bid b 11 1;need b 999;mill b 99;bridge b 98;"
            + "field b 97 96;move 99;fish 999;patience 12;");
        check.due("plain()", rows, 13);
        check.due("fault()", river.fault(), 0);
        told(river, 0, 99, 999, 99, 999, 0, 0, 0, 0, 0);
        told(river, 1, 0, 0, 0, 0, 999, 99, 98, 97, 96);
        check.due("bid(0, 0)", river.bid(0, 0), 999);
        check.due("bid(1, 11)", river.bid(1, 11), 1);
        check.due("bid(1, 0)", river.bid(1, 0), 0);
        check.due("water(0)", river.water(0), 999);
        check.due("water(11)", river.water(11), 7);
        check.due("water(5)", river.water(5), 0);
        check.due("signs need no blanks", Check.plain(river, "move 007;fish 00;"), 2);
        check.due("count(2)", river.count(2), 7);
    }

    private static void told(RentRiver river, int town, int... due) {
        for (int what = 0; what < due.length; what++) {
            check.due("told(" + town + ", " + what + ")", river.told(town, what), due[what]);
        }
    }

    private static void whatIsNotTold() {
        RentRiver river = Check.river(A);
        int[][] wrong = {{1, 0}, {-1, 0}, {0, 9}, {0, -1}, {8, 0}, {Integer.MAX_VALUE, 0}};
        for (int[] pair : wrong) {
            boolean thrown = false;
            try {
                river.told(pair[0], pair[1]);
            } catch (NoSuchElementException e) {
                thrown = true;
            }
            check.due("told(" + pair[0] + ", " + pair[1] + ") throws", thrown, true);
        }
        int[][] none = {{1, 0}, {-1, 0}, {0, 12}, {0, -1}};
        for (int[] pair : none) {
            check.due("bid(" + pair[0] + ", " + pair[1] + ")", river.bid(pair[0], pair[1]), -1);
        }
        check.due("water(12)", river.water(12), RentRiver.NONE);
        check.due("water(-1)", river.water(-1), RentRiver.NONE);
    }

    private static void fault(String text, int kind, int place) {
        RentRiver river = new RentRiver();
        check.fault(river, text, Check.plain(river, text), kind, place);
    }

    private static void faultsOfTokens() {
        fault("town", 1, 4);
        fault("town  ", 1, 6);
        fault(";", 1, 0);
        fault("move 1", 1, 6);
        fault("move 1 1;", 1, 7);
        fault("move a;", 1, 5);
        fault("move 1;;", 1, 7);
        fault("let 1 a 1;", 1, 0);
        fault("sea 1;", 1, 0);
        fault("shore", 1, 0);
        fault("rivers 1;", 1, 0);
        fault("7;", 1, 0);
        fault("town 1 1 1 1 1;", 1, 5);
        fault("town abcdefghi 1 1 1 1;", 1, 5);
        fault("town a1 1 1 1 1;", 1, 5);
        fault("town A 1 1 1 1;", 1, 5);
        fault("town a 1a 1 1 1;", 1, 7);
        fault("town a 1 1 1 0001;", 1, 13);
        fault("town a 1 1 1 ;", 1, 13);
        fault("town a -1 1 1 1;", 1, 7);
        fault("town a 1 1 1 1.", 1, 14);
        fault("town\ta 1 1 1 1;", 1, 4);
        fault("move (1);", 1, 5);
        fault("fish 1000;", 1, 5);
        fault("water 0 a;?", 1, 8);
        fault(A + "bid a 0;", 1, 22);
        fault(A + "bid bid 0 1;", 1, 19);
        fault(A + "need 1;", 1, 20);
        fault(A + "field a 1;", 1, 24);
        String words = "town water bid need mill bridge field move fish patience let sea or and "
            + "not shore thirsty pond purse paid dry lets green place";
        for (String word : words.split(" ")) {
            fault("town " + word + " 1 1 1 1;", 1, 5);
        }
    }

    private static void faultsOfNumbers() {
        fault("town a 100 1 1 1;", 2, 7);
        fault("town a 99 999 100 1;", 2, 14);
        fault("water 12 1;", 2, 6);
        fault(A + "bid a 12 1;", 2, 21);
        fault(A + "bid a 11 0;", 2, 24);
        fault(A + "mill a 100;", 2, 22);
        fault(A + "bridge a 100;", 2, 24);
        fault(A + "field a 100 1;", 2, 23);
        fault(A + "field a 1 100;", 2, 25);
        fault("move 100;", 2, 5);
        fault("patience 0;", 2, 9);
        fault("patience 13;", 2, 9);
        check.due("greatest numbers", Check.plain(new RentRiver(),
            "town a 99 999 99 999;need a 999;bid a 11 999;fish 999;water 11 999;"), 5);
    }

    private static void faultsOfNames() {
        fault(A + A, 3, 20);
        fault("bid a 0 1;", 3, 4);
        fault("bid a 0 1;" + A, 3, 4);
        fault(A + "bid b 99 1;", 3, 19);
        fault(A + "bid a 0 1;bid a 0 2;", 3, 31);
        fault("water 0 0;water 0 1;", 3, 16);
        fault(A + "need a 0;need a 1;", 3, 29);
        fault(A + "mill a 0;mill a 1;", 3, 29);
        fault(A + "bridge a 0;bridge a 1;", 3, 33);
        fault(A + "field a 0 0;field a 1 1;", 3, 33);
        fault(A + "need b 1;", 3, 20);
        fault("move 0;move", 3, 7);
        fault("fish 0;fish", 3, 7);
        fault("patience 3;patience", 3, 11);
        check.due("once each", Check.plain(new RentRiver(), A + "need a 1;mill a 1;bridge a 1;"
            + "field a 1 1;bid a 0 1;bid a 1 1;"), 7);
    }

    private static String towns(int n) {
        StringBuilder text = new StringBuilder();
        for (int i = 0; i < n; i++) {
            text.append("town ").append((char) ('a' + i)).append(" 1 1 1 1;");
        }
        return text.toString();
    }

    private static String bids(int n) {
        StringBuilder text = new StringBuilder("town a 1 1 1 1;town b 1 1 1 1;town c 1 1 1 1;"
            + "town d 1 1 1 1;");
        for (int i = 0; i < n; i++) {
            text.append("bid ").append((char) ('a' + i / 12)).append(' ').append(i % 12).append(" 1;");
        }
        return text.toString();
    }

    private static void faultsOfMany() {
        check.due("eight towns", Check.plain(new RentRiver(), towns(8)), 8);
        fault(towns(8) + "town", 4, 120);
        fault(towns(8) + " town a", 4, 121);
        check.due("forty bids", Check.plain(new RentRiver(), bids(40)), 44);
        fault(bids(40) + "bid z 99 0", 4, bids(40).length());
        fault(bids(40) + "bids", 1, bids(40).length());
    }

    private static void faultsOfLength() {
        RentRiver river = new RentRiver();
        check.due("900 bytes", Check.plain(river, "move 1;" + Check.times(" ", 893)), 1);
        fault("move 1;" + Check.times(" ", 894), 1, 900);
        fault(Check.times("\n", 905) + "?", 1, 900);
        fault(Check.times(" ", 899) + "?" + Check.times(" ", 20), 1, 899);
        fault("move 1;" + Check.times(" ", 892) + "move 1;", 3, 899);
        fault("move 1;" + Check.times(" ", 892) + "movement", 1, 899);
        fault(Check.times(" ", 894) + "move 100;", 2, 899);
        fault(Check.times(" ", 894) + "move 99;", 1, 900);
        fault(Check.times(" ", 893) + "fish 99;", 1, 900);
        fault(Check.times(" ", 890) + "patience 9;", 1, 900);
        fault(Check.times(" ", 890) + "patience  9999;", 1, 900);
        check.due("a token up to the last byte", Check.plain(river, Check.times(" ", 893) + "fish 9;"), 1);
    }

    private static void aFaultLeavesThePlain() {
        RentRiver river = Check.river(A + "bid a 3 7;move 5;water 2 3;");
        Check.contracts(river, "sea 1;");
        Check.sentence(river, "shore or not shore");
        river.begin();
        river.on(2);
        Check.plain(river, "town b 9 9 9 9;move 9;water 2 9;oops");
        check.due("fault()", river.fault(), 1);
        check.due("count(0)", river.count(0), 1);
        check.due("count(2)", river.count(2), 5);
        check.due("count(5)", river.count(5), 1);
        check.due("bid(0, 3)", river.bid(0, 3), 7);
        check.due("told(0, 0)", river.told(0, 0), 1);
        check.due("water(2)", river.water(2), 3);
        check.due("year(0)", river.year(0), 2);
        check.due("said(-1)", river.said(-1), 1);
        check.due("fault() stays till the next text", river.fault(), 1);
        check.due("contracts()", Check.contracts(river, "let 1 a 1;"), 1);
        check.due("fault()", river.fault(), 0);
        check.due("sentence() with a fault", Check.sentence(river, "shore or"), -9);
        check.due("fault()", river.fault(), 1);
    }

    private static void textsReadAgainAndAgain() {
        RentRiver river = new RentRiver();
        String full = A + "town b 2 2 2 2;bid a 3 7;need a 4;mill a 1;bridge a 1;field a 1 1;"
            + "patience 1;fish 3;move 5;water 2 3;";
        for (int i = 0; i < 3; i++) {
            check.due("plain() of a full text", Check.plain(river, full), 11);
            check.due("plain() with a fault at the end", Check.plain(river, full + "x"), -full.length() - 1);
            check.due("count(1)", river.count(1), 1);
            check.due("plain() of nothing", Check.plain(river, ""), 0);
            int[] counts = {0, 0, 0, 0, 3, 0, 0};
            for (int what = 0; what < counts.length; what++) {
                check.due("count(" + what + ")", river.count(what), counts[what]);
            }
            check.due("water(2)", river.water(2), 0);
            check.due("plain() of a town", Check.plain(river, "town z 0 0 0 0;"), 1);
            for (int what = 0; what < 9; what++) {
                check.due("told(0, " + what + ")", river.told(0, what), 0);
            }
            check.due("bid(0, 3)", river.bid(0, 3), 0);
            check.due("a name of before", Check.plain(river, "need a 1;"), -6);
        }
    }

    private static void aNewPlainForgets() {
        RentRiver river = Check.river(A + "bid a 3 7;need a 4;patience 1;fish 3;move 5;water 2 3;");
        Check.contracts(river, "sea 1;");
        Check.sentence(river, "shore");
        river.offer(0, 0, 1);
        river.begin();
        check.due("plain()", Check.plain(river, A), 1);
        check.due("count(1)", river.count(1), 0);
        check.due("count(2)", river.count(2), 0);
        check.due("count(3)", river.count(3), 0);
        check.due("count(4)", river.count(4), 3);
        check.due("count(5)", river.count(5), 0);
        check.due("contract(1, 0)", river.contract(1, 0), -1);
        check.due("year(0)", river.year(0), -1001);
        check.due("told(0, 4)", river.told(0, 4), 0);
        check.due("water(2)", river.water(2), 0);
        check.due("undo()", river.undo(), -1);
        river.begin();
        check.due("said(-1)", river.said(-1), -1);
    }
}

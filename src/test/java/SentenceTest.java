/** Promises 39 and 40: a SENTENCE, its FAULTS, and the towns of which it may be said. */
public final class SentenceTest {
    private static final Check check = new Check();

    public static void main(String[] args) {
        ones();
        faults();
        faultsOfMany();
        wrongAsks();
        measures();
        joining();
        itStays();
        check.end();
    }

    private static void ones() {
        RentRiver river = new RentRiver();
        check.due("one", Check.sentence(river, "shore"), 1);
        check.due("a comparison", Check.sentence(river, " pond<999\n"), 1);
        check.due("not", Check.sentence(river, "not shore"), 2);
        check.due("brackets", Check.sentence(river, "((shore))"), 3);
        check.due("all", Check.sentence(river, "not(pond<1 or purse=2 and paid>3)or dry=4 and"
            + " lets=5 or green=6 and place=7 or thirsty"), 10);
        check.due("fault()", river.fault(), 0);
        check.due("twenty", Check.sentence(river, "shore" + Check.times(" or dry=1", 19)), 20);
        check.due("eight within", Check.sentence(river, Check.times("not ", 7) + "shore"), 8);
        check.due("eight within", Check.sentence(river, Check.times("(", 7) + "shore or dry=1"
            + Check.times(")", 7) + "or(dry=1)"), 11);
        check.due("200 bytes", Check.sentence(river, "shore" + Check.times(" ", 195)), 1);
    }

    private static void fault(String text, int kind, int place) {
        RentRiver river = new RentRiver();
        check.fault(river, text, Check.sentence(river, text), kind, place);
    }

    private static void faults() {
        fault("", 1, 0);
        fault("  ", 1, 2);
        fault("or", 1, 0);
        fault("shore shore", 1, 6);
        fault("shore or", 1, 8);
        fault("shore and or", 1, 10);
        fault("not", 1, 3);
        fault("not and", 1, 4);
        fault("(shore", 1, 6);
        fault("(shore;", 1, 6);
        fault("shore)", 1, 5);
        fault("()", 1, 1);
        fault("pond", 1, 4);
        fault("pond 3", 1, 5);
        fault("pond (3", 1, 5);
        fault("pond < pond", 1, 7);
        fault("pond < 1000", 1, 7);
        fault("pond <= 3", 1, 6);
        fault("shore < 3", 1, 6);
        fault("need < 3", 1, 0);
        fault("town", 1, 0);
        fault("x", 1, 0);
        fault("3", 1, 0);
        fault("shore.", 1, 5);
        fault("shore;", 1, 5);
        fault("shore" + Check.times(" ", 196), 1, 200);
        fault("shore" + Check.times(" ", 194) + "or dry", 1, 200);
        fault("shore" + Check.times(" ", 194) + "and", 1, 200);
        fault("shore" + Check.times(" ", 194) + "shore", 1, 199);
    }

    private static void faultsOfMany() {
        String twenty = "shore" + Check.times(" or shore", 19);
        fault(twenty + " or shore", 4, twenty.length() + 4);
        fault(twenty + " or (", 4, twenty.length() + 4);
        fault(twenty + " or not", 4, twenty.length() + 4);
        fault(twenty + " or or", 1, twenty.length() + 4);
        fault(twenty + " or ", 1, twenty.length() + 4);
        fault(Check.times("not ", 8) + "shore", 4, 32);
        fault(Check.times("not ", 8) + "(", 4, 32);
        fault(Check.times("not ", 8) + ")", 1, 32);
        fault(Check.times("(", 9) + "shore", 4, 8);
        fault(Check.times("(", 8) + "dry=1", 4, 8);
        fault("shore or " + Check.times("(", 8) + "dry=1", 4, 17);
    }

    private static final String PLAIN = "town a 0 50 5 9;town b 0 50 0 20;town c 0 50 1 0;need b 11;"
        + "need a 10;field a 2 1;water 0 10;water 1 20;bid a 0 3;bid b 1 4;bid b 2 5;patience 3;";

    private static void said(RentRiver river, String text, int... towns) {
        int ones = Check.sentence(river, text);
        check.due("sentence() of '" + text + "'", ones > 0, true);
        check.due("'" + text + "' of how many", river.said(-1), towns.length);
        for (int k = 0; k < towns.length; k++) {
            check.due("'" + text + "' of the " + k + "-th", river.said(k), towns[k]);
        }
        check.due("'" + text + "' of no more", river.said(towns.length), -1);
    }

    private static void wrongAsks() {
        RentRiver river = Check.river(PLAIN);
        river.begin();
        check.due("said(-1) without a sentence", river.said(-1), -1);
        Check.sentence(river, "shore");
        check.due("said(-1)", river.said(-1), 0);
        check.due("said(0)", river.said(0), -1);
        check.due("said(-2)", river.said(-2), -1);
        Check.plain(river, PLAIN);
        river.begin();
        check.due("said(-1) behind a new plain", river.said(-1), -1);
        Check.plain(river, PLAIN);
        Check.sentence(river, "shore");
        check.due("said(-1) without a year", river.said(-1), -1);
    }

    private static void measures() {
        RentRiver river = Check.river(PLAIN);
        river.begin();
        river.on(3);
        // a: 10 came, 5 used, 2 for the field; then 3 used; dry once. b: 20 came, paid 9.
        // c: dry three times, a shore.
        said(river, "shore", 2);
        said(river, "not shore", 0, 1);
        said(river, "thirsty");
        said(river, "pond=20", 1);
        said(river, "pond>0", 1);
        said(river, "pond<20", 0, 2);
        said(river, "purse=6", 0);
        said(river, "purse<11", 0, 2);
        said(river, "purse>6", 1);
        said(river, "paid=9", 1);
        said(river, "paid>2", 0, 1);
        said(river, "dry=2", 0);
        said(river, "dry=3", 2);
        said(river, "dry=0", 1);
        said(river, "lets=2", 1);
        said(river, "lets<2", 0, 2);
        said(river, "green=1", 0);
        said(river, "green<1", 1, 2);
        said(river, "place=0", 0);
        said(river, "place>0", 1, 2);
        said(river, "place<999", 0, 1, 2);
        river.begin();
        river.on(1);
        said(river, "thirsty", 1);
        said(river, "not thirsty", 0, 2);
    }

    private static void joining() {
        RentRiver river = Check.river(PLAIN);
        river.begin();
        said(river, "place=0 or place=1 and place=2", 0);
        said(river, "place=2 and place=1 or place=0", 0);
        said(river, "(place=0 or place=2) and place=2", 2);
        said(river, "place=2 and (place=0 or place=2)", 2);
        said(river, "not place=0 and place<2", 1);
        said(river, "not (place=0 and place<2)", 1, 2);
        said(river, "not place=0 or place=0", 0, 1, 2);
        said(river, "not not place=1", 1);
        said(river, "not (not place=1 or not place<2)", 1);
        said(river, "place=0 or place=1 or place=2 and not place=2", 0, 1);
        said(river, "place=0 and place=0 and not place=1 and place<1", 0);
        said(river, "shore" + Check.times(" or shore", 18) + " or place=1", 1);
        said(river, "place=1" + Check.times(" and place=1", 14), 1);
    }

    private static void itStays() {
        RentRiver river = Check.river(PLAIN);
        river.begin();
        said(river, "place=1", 1);
        check.due("sentence() with a fault", Check.sentence(river, "place=2 or"), -11);
        check.due("said(0)", river.said(0), 1);
        Check.contracts(river, "sea 1;");
        check.due("said(0)", river.said(0), 1);
        check.due("a text with a fault", Check.plain(river, "x"), -1);
        check.due("said(0)", river.said(0), 1);
    }
}

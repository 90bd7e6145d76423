/** Promises 1 to 3 and 43: a new object, the tape, what is counted. */
public final class TapeTest {
    private static final Check check = new Check();

    public static void main(String[] args) {
        newObject();
        feeding();
        ending();
        theTapeIsEmptyBehindItsReaders();
        counting();
        check.end();
    }

    private static void newObject() {
        RentRiver river = new RentRiver();
        int[] counts = {0, 0, 0, 0, 3, 0, 0};
        for (int what = 0; what < counts.length; what++) {
            check.due("count(" + what + ") of a new object", river.count(what), counts[what]);
        }
        check.due("fault()", river.fault(), 0);
        check.due("water(11)", river.water(11), 0);
        check.due("begin()", river.begin(), false);
        check.due("NONE", RentRiver.NONE, -1);
    }

    private static void feeding() {
        RentRiver river = new RentRiver();
        for (int n = 20; n <= 940; n += 20) {
            check.due("feed()", river.feed(0, 0, 0, 0, 0), n);
        }
        check.due("feed() beyond 940", river.feed(0, 0, 0, 0, 0), RentRiver.NONE);
        check.due("count(6)", river.count(6), 940);
        river.end(921);
        check.due("feed() from 921", river.feed(0, 0, 0, 0, 0), RentRiver.NONE);
        check.due("count(6)", river.count(6), 921);
        river.end(920);
        check.due("feed() from 920", river.feed(0, 0, 0, 0, 0), 940);
        // "sea " "let " ";" and a byte above 127: the highest byte of each number comes first.
        river.end(0);
        river.feed(0x73656120, 0x313b2020, 0x20202020, 0x20202020, 0x20202020);
        check.due("contracts() of 'sea 1;'", river.contracts(), 1);
        check.due("contract(1, 0)", river.contract(1, 0), 8);
        river.feed(0x73656120, 0x323be900, 0, 0, 0);
        river.end(7);
        check.due("contracts() with a byte of 233", river.contracts(), -7);
    }

    private static void ending() {
        RentRiver river = new RentRiver();
        check.due("end(0)", river.end(0), true);
        check.due("end(1) of an empty tape", river.end(1), false);
        river.feed(1, 2, 3, 4, 5);
        check.due("end(21)", river.end(21), false);
        check.due("end(-1)", river.end(-1), false);
        check.due("end(lowest)", river.end(Integer.MIN_VALUE), false);
        check.due("end(highest)", river.end(Integer.MAX_VALUE), false);
        check.due("count(6)", river.count(6), 20);
        check.due("end(20)", river.end(20), true);
        check.due("end(7)", river.end(7), true);
        check.due("count(6)", river.count(6), 7);
        check.due("feed()", river.feed(1, 2, 3, 4, 5), 27);
    }

    private static void theTapeIsEmptyBehindItsReaders() {
        RentRiver river = new RentRiver();
        String[] texts = {"move 3;", "move", "shore", "or", "sea 1;", "sea"};
        for (String text : texts) {
            Check.plain(river, text);
            check.due("count(6) behind plain()", river.count(6), 0);
            Check.contracts(river, text);
            check.due("count(6) behind contracts()", river.count(6), 0);
            Check.sentence(river, text);
            check.due("count(6) behind sentence()", river.count(6), 0);
        }
        Check.plain(river, "town a 1 1 1 1;");
        Check.leaks(river, 0, 0, 0);
        check.due("count(6) behind leaks()", river.count(6), 0);
        Check.leaks(river, 0, 0);
        check.due("count(6) behind leaks() that is NONE", river.count(6), 0);
    }

    private static void counting() {
        RentRiver river = Check.river("town a 1 2 3 4;town b 1 1 1 1;bid a 3 4;bid b 3 4;bid b 5 4;"
            + "move 99;fish 999;patience 12;");
        Check.contracts(river, "sea 4;let 3 a 1;let 2 b a 1;let 11 b 0;");
        river.feed(0, 0, 0, 0, 0);
        int[] counts = {2, 3, 99, 999, 12, 4, 20};
        for (int what = 0; what < counts.length; what++) {
            check.due("count(" + what + ")", river.count(what), counts[what]);
        }
        check.due("count(7)", river.count(7), RentRiver.NONE);
        check.due("count(-1)", river.count(-1), RentRiver.NONE);
        river.offer(0, 0, 5);
        check.due("count(1) behind an offer", river.count(1), 4);
        river.offer(0, 0, 6);
        check.due("count(1) behind the same offer raised", river.count(1), 4);
        river.offer(0, 0, 0);
        check.due("count(1) behind no more", river.count(1), 3);
    }
}

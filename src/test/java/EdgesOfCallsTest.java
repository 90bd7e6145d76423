import java.util.NoSuchElementException;

/** Promises 1 to 18: each call at its boundaries and just beyond, and that a refused one changes nothing. */
public final class EdgesOfCallsTest {
    private static final Check check = new Check();
    private static final int[] FAR = {Integer.MIN_VALUE, -1000, -2, 1000, Integer.MAX_VALUE};

    public static void main(String[] args) {
        promise1NewObject();
        promise2Feed();
        promise2Bytes();
        promise3End();
        promise4Plain();
        promise4EmptyTape();
        promise4NewPlain();
        promise4Without();
        promise5Fault();
        promise6Told();
        promise7Bid();
        promise8Offer();
        promise8FortyFirst();
        promise9Undo();
        promise9Eight();
        promise9RefusedOffers();
        promise10Water();
        promise11Contracts();
        promise12Contract();
        promise13Begin();
        promise14On();
        promise15Year();
        promise16Town();
        promise17Let();
        promise18Droughts();
        check.end();
    }

    /** "An empty PLAIN; an empty tape." */
    private static void promise1NewObject() {
        RentRiver river = new RentRiver();
        check.due("count(0)", river.count(0), 0);
        check.due("count(1)", river.count(1), 0);
        check.due("count(6)", river.count(6), 0);
        check.due("end(0)", river.end(0), true);
        check.due("end(1)", river.end(1), false);
        check.due("plain() of the empty tape", river.plain(), 0);
        // A new object is like one that read an empty text.
        RentRiver read = new RentRiver();
        read.plain();
        check.unchanged("an empty text", Seen.of(new RentRiver()), read);
        // Objects share nothing.
        RentRiver other = Check.full();
        other.image(0);
        check.unchanged("what another object did", Seen.of(read), new RentRiver());
        check.due("restore(0)", new RentRiver().restore(0), false);
    }

    /** "NONE, and none come, if it would have more than 940." */
    private static void promise2Feed() {
        RentRiver river = new RentRiver();
        for (int size = 20; size <= 920; size += 20) {
            check.due("feed()", river.feed(0x20202020, 0x20202020, 0x20202020, 0x20202020, 0x20202020), size);
        }
        check.due("feed() to 940", river.feed(1, 2, 3, 4, 5), 940);
        Seen before = Seen.of(river);
        check.due("feed() beyond 940", river.feed(6, 7, 8, 9, 10), -1);
        check.unchanged("feed()", before, river);
        river.end(920);
        check.due("feed() to 940 again", river.feed(1, 2, 3, 4, 5), 940);
        for (int n : new int[] {939, 930, 921}) {
            river.end(n);
            check.due("feed() beyond 940", river.feed(6, 7, 8, 9, 10), -1);
            check.due("count(6)", river.count(6), n);
        }
        river.end(900);
        check.due("the bytes ahead are as they were", river.plain(), 0);
        river.feed(0, 0, 0, 0, 0);
        river.end(19);
        check.due("feed() from 19", river.feed(0, 0, 0, 0, 0), 39);
    }

    /** "of each number the highest first": all twenty, and numbers below 0. */
    private static void promise2Bytes() {
        RentRiver river = new RentRiver();
        // "sea 0;sea 1;sea 11 ;"
        river.feed(0x73656120, 0x303b7365, 0x6120313b, 0x73656120, 0x3131203b);
        check.due("contracts() of twenty bytes", river.contracts(), 3);
        check.due("count(5)", river.count(5), 3);
        for (int month : new int[] {0, 1, 11}) {
            check.due("contract(" + month + ", 0)", river.contract(month, 0), 8);
        }
        // Levels of 255 and 128 in bytes above 127: they are no levels below 0.
        river = Check.river("town a 0 999 0 0;water 0 999;water 1 999;");
        river.feed(0x00ff8000, -1, -1, -1, -1);
        river.end(3);
        check.due("leaks() of a level of 65408", river.leaks(), 0);
        river = Check.river("town a 0 999 0 0;water 0 255;");
        Check.contracts(river, "let 0 a 0;");
        river.feed(0x0000ff00, 0, 0, 0, 0);
        river.end(3);
        check.due("leaks() of a level of 255", river.leaks(), 11 * 9);
    }

    /** "false, if it has not so many, or n is below 0" */
    private static void promise3End() {
        RentRiver river = Check.full();
        river.feed(0x73656120, 0x303b7365, 0x6120313b, 0x20202020, 0x20202020);
        Seen before = Seen.of(river);
        check.due("end(21)", river.end(21), false);
        check.due("end(-1)", river.end(-1), false);
        for (int n : FAR) {
            check.due("end(" + n + ")", river.end(n), false);
        }
        check.unchanged("end()", before, river);
        check.due("end(20)", river.end(20), true);
        check.unchanged("end() of all", before, river);
        check.due("end(6)", river.end(6), true);
        check.due("end(7)", river.end(7), false);
        check.due("count(6)", river.count(6), 6);
        check.due("contracts() of the first six", river.contracts(), 1);
        river.feed(0, 0, 0, 0, 0);
        check.due("end(0)", river.end(0), true);
        check.due("count(6)", river.count(6), 0);
        check.due("contracts() of none", river.contracts(), 0);
    }

    /** "-1 less the place of a FAULT: it stays": the lowest place is 0, the highest 900. */
    private static void promise4Plain() {
        RentRiver river = Check.full();
        river.offer(0, 7, 3);
        Seen before = Seen.of(river);
        check.due("plain() with a fault at 0", Check.plain(river, "?"), -1);
        check.due("fault()", river.fault(), 1);
        check.unchanged("plain()", before, river);
        check.due("plain() with a fault at 900", Check.plain(river, Check.times(" ", 940)), -901);
        check.unchanged("plain()", before, river);
        check.due("plain() with a fault at its end", Check.plain(river, "town x 9 9 9 9;bid x 0 9"), -25);
        check.unchanged("plain()", before, river);
        check.due("undo() behind it", river.undo(), 0);
        check.due("take() behind it", river.take(), true);
        check.due("plain() of one row", Check.plain(river, "move 1;"), 1);
        check.due("plain() of no row", Check.plain(river, ""), 0);
        // As many rows as a text may have: 8 towns, 12 of water, 3 of one number each.
        StringBuilder rows = new StringBuilder("move 1;fish 1;patience 1;");
        for (int i = 0; i < 8; i++) {
            rows.append("town ").append((char) ('a' + i)).append(" 1 1 1 1;");
        }
        for (int i = 0; i < 12; i++) {
            rows.append("water ").append(i).append(" 1;");
        }
        check.due("plain() of many rows", Check.plain(river, rows.toString()), 23);
    }

    /** "The tape (empty then, here and below)" */
    private static void promise4EmptyTape() {
        RentRiver river = Check.river("town a 0 9 0 9;");
        for (String text : new String[] {"", "sea 1;", "town b 0 0 0 0;", "shore", "?", Check.times(" ", 940)}) {
            Check.tape(river, text);
            river.contracts();
            check.due("count(6) behind contracts()", river.count(6), 0);
            Check.tape(river, text);
            river.sentence();
            check.due("count(6) behind sentence()", river.count(6), 0);
            Check.tape(river, text);
            river.leaks();
            check.due("count(6) behind leaks()", river.count(6), 0);
            Check.tape(river, text);
            river.plain();
            check.due("count(6) behind plain()", river.count(6), 0);
        }
        // No other call empties it.
        river = Check.full();
        river.feed(0, 0, 0, 0, 0);
        river.begin();
        river.on(12);
        river.cheapest();
        river.take();
        river.rounds(1);
        river.write();
        river.image(0);
        river.restore(0);
        river.offer(0, 0, 1);
        river.undo();
        check.due("count(6)", river.count(6), 20);
    }

    /** "A new PLAIN: no YEAR now, no CONTRACTS.", and no SENTENCE, even if the text is the same. */
    private static void promise4NewPlain() {
        String text = "town a 0 9 0 9;bid a 0 3;";
        RentRiver river = Check.river(text);
        Check.contracts(river, "sea 1;");
        Check.sentence(river, "place = 0");
        river.offer(0, 0, 5);
        river.begin();
        river.on(12);
        check.due("plain() of the same text", Check.plain(river, text), 2);
        check.due("year(0)", river.year(0), -1001);
        check.due("on(0)", river.on(0), -1);
        check.due("droughts()", river.droughts(), -1);
        check.due("count(5)", river.count(5), 0);
        check.due("contract(1, 0)", river.contract(1, 0), -1);
        check.due("bid(0, 0)", river.bid(0, 0), 3);
        check.due("undo()", river.undo(), -1);
        river.begin();
        check.due("said(-1)", river.said(-1), -1);
    }

    /** "0 without", "3 without": rows that a text of before told, of this one nothing. */
    private static void promise4Without() {
        StringBuilder told = new StringBuilder("move 9;fish 9;patience 9;");
        for (int month = 0; month < 12; month++) {
            told.append("water ").append(month).append(" 9;");
        }
        for (int town = 0; town < 8; town++) {
            char name = (char) ('a' + town);
            told.append("town ").append(name).append(" 9 9 9 9;field ").append(name).append(" 9 9;");
        }
        StringBuilder more = new StringBuilder();
        StringBuilder bare = new StringBuilder();
        for (int town = 0; town < 8; town++) {
            char name = (char) ('a' + town);
            bare.append("town ").append(name).append(" 0 0 0 0;");
            more.append("bid ").append(name).append(" 0 9;bid ").append(name).append(" 11 9;need ");
            more.append(name).append(" 9;mill ").append(name).append(" 9;bridge ").append(name).append(" 9;");
        }
        RentRiver river = new RentRiver();
        check.due("plain() of rows", Check.plain(river, told.toString()), 31);
        check.due("plain() of rows", Check.plain(river, bare.toString() + more), 48);
        for (int i = 0; i < 3; i++) {
            check.due("plain() of towns alone", Check.plain(river, bare.toString()), 8);
            check.unchanged("texts of before", Seen.of(Check.river(bare.toString())), river);
        }
    }

    /** "of the latest plain(), contracts() or sentence(); 0 without one and ahead of any" */
    private static void promise5Fault() {
        RentRiver river = new RentRiver();
        check.due("fault() ahead of any", river.fault(), 0);
        Check.leaks(river, 99);
        check.due("fault() behind leaks() that is NONE", river.fault(), 0);
        Check.plain(river, "move 100;");
        check.due("fault()", river.fault(), 2);
        Check.leaks(river, 99);
        check.due("fault() behind leaks()", river.fault(), 2);
        river.begin();
        river.restore(0);
        check.due("fault() behind other calls", river.fault(), 2);
        Check.contracts(river, "sea 1;sea 1;");
        check.due("fault()", river.fault(), 3);
        Check.sentence(river, Check.times("(", 9));
        check.due("fault()", river.fault(), 4);
        Check.plain(river, "?");
        check.due("fault()", river.fault(), 1);
        for (char kind : new char[] {'p', 'c', 's'}) {
            Check.plain(river, "?");
            int answer = kind == 'p' ? Check.plain(river, "")
                : kind == 'c' ? Check.contracts(river, "") : Check.sentence(river, "shore");
            check.due("a text without a fault", answer >= 0, true);
            check.due("fault() without one", river.fault(), 0);
        }
    }

    private static void throwsNoSuch(RentRiver river, int town, int what) {
        boolean thrown = false;
        try {
            river.told(town, what);
        } catch (NoSuchElementException e) {
            thrown = e.getClass() == NoSuchElementException.class;
        }
        check.due("told(" + town + ", " + what + ") throws", thrown, true);
    }

    /** "NoSuchElementException: no such ones.", "A call that throws changes nothing." */
    private static void promise6Told() {
        RentRiver river = Check.full();
        check.due("told(0, 0)", river.told(0, 0), 1);
        check.due("told(1, 8)", river.told(1, 8), 3);
        Seen before = Seen.of(river);
        throwsNoSuch(river, -1, 0);
        throwsNoSuch(river, 2, 0);
        throwsNoSuch(river, 8, 0);
        throwsNoSuch(river, 0, -1);
        throwsNoSuch(river, 0, 9);
        throwsNoSuch(river, 1, 9);
        for (int far : FAR) {
            throwsNoSuch(river, far, 0);
            throwsNoSuch(river, 0, far);
            throwsNoSuch(river, far, far);
        }
        check.unchanged("told() that throws", before, river);
        throwsNoSuch(new RentRiver(), 0, 0);
        // As told, whatever the year and offers make of it.
        river = Check.river("town a 1 2 3 4;bid a 0 4;mill a 9;");
        river.begin();
        river.on(1);
        check.due("told(0, 3)", river.told(0, 3), 4);
        Check.plain(river, "");
        throwsNoSuch(river, 0, 0);
    }

    /** "(0: nothing); NONE: no such ones" */
    private static void promise7Bid() {
        RentRiver river = Check.full();
        check.due("bid(0, 0)", river.bid(0, 0), 5);
        check.due("bid(1, 0)", river.bid(1, 0), 0);
        check.due("bid(1, 11)", river.bid(1, 11), 0);
        check.due("bid(2, 0)", river.bid(2, 0), -1);
        check.due("bid(-1, 0)", river.bid(-1, 0), -1);
        check.due("bid(0, 12)", river.bid(0, 12), -1);
        check.due("bid(0, -1)", river.bid(0, -1), -1);
        for (int far : FAR) {
            check.due("bid(" + far + ", 0)", river.bid(far, 0), -1);
            check.due("bid(0, " + far + ")", river.bid(0, far), -1);
        }
        check.due("bid(0, 0) without towns", new RentRiver().bid(0, 0), -1);
    }

    /** "n (0 to 999; 0: no more)", "false: no such ones" */
    private static void promise8Offer() {
        RentRiver river = Check.full();
        Seen before = Seen.of(river);
        check.due("offer(2, 0, 1)", river.offer(2, 0, 1), false);
        check.due("offer(-1, 0, 1)", river.offer(-1, 0, 1), false);
        check.due("offer(0, 12, 1)", river.offer(0, 12, 1), false);
        check.due("offer(0, -1, 1)", river.offer(0, -1, 1), false);
        check.due("offer(0, 0, 1000)", river.offer(0, 0, 1000), false);
        check.due("offer(0, 0, -1)", river.offer(0, 0, -1), false);
        for (int far : FAR) {
            check.due("offer(far, 0, 1)", river.offer(far, 0, 1), false);
            check.due("offer(0, far, 1)", river.offer(0, far, 1), false);
            check.due("offer(0, 0, far)", river.offer(0, 0, far), false);
        }
        check.unchanged("offer()", before, river);
        check.due("undo() of none", river.undo(), -1);
        check.due("offer(1, 11, 999)", river.offer(1, 11, 999), true);
        check.due("bid(1, 11)", river.bid(1, 11), 999);
        check.due("count(1)", river.count(1), 4);
        check.due("offer(1, 11, 1)", river.offer(1, 11, 1), true);
        check.due("bid(1, 11)", river.bid(1, 11), 1);
        check.due("count(1)", river.count(1), 4);
        check.due("offer(1, 11, 0)", river.offer(1, 11, 0), true);
        check.due("count(1)", river.count(1), 3);
        check.due("offer() without towns", new RentRiver().offer(0, 0, 1), false);
        // From now on: months that are done stay as they are.
        check.due("offer(1, 0, 9)", river.offer(1, 0, 9), true);
        check.due("let(0, 0)", river.let(0, 0), 0);
    }

    private static RentRiver fortyBids() {
        StringBuilder text = new StringBuilder();
        for (int town = 0; town < 4; town++) {
            text.append("town ").append((char) ('a' + town)).append(" 0 9 0 9;");
        }
        for (int i = 0; i < 40; i++) {
            text.append("bid ").append((char) ('a' + i / 12)).append(' ').append(i % 12).append(" 1;");
        }
        return Check.river(text.toString());
    }

    /** "false: .. or it would be a 41st bid" */
    private static void promise8FortyFirst() {
        RentRiver river = fortyBids();
        check.due("count(1)", river.count(1), 40);
        Seen before = Seen.of(river);
        check.due("a 41st bid", river.offer(3, 4, 1), false);
        check.due("a 41st bid", river.offer(3, 11, 999), false);
        check.unchanged("a 41st bid", before, river);
        check.due("undo() of none", river.undo(), -1);
        check.due("another bid for the same", river.offer(0, 0, 999), true);
        check.due("count(1)", river.count(1), 40);
        check.due("no bid where there is none", river.offer(3, 4, 0), true);
        check.due("count(1)", river.count(1), 40);
        check.due("no more", river.offer(0, 0, 0), true);
        check.due("count(1)", river.count(1), 39);
        check.due("a 40th bid", river.offer(3, 4, 1), true);
        check.due("count(1)", river.count(1), 40);
        check.due("a 41st bid", river.offer(0, 0, 1), false);
        check.due("undo()", river.undo(), 3);
        check.due("a 40th bid", river.offer(0, 0, 1), true);
        check.due("a 41st bid", river.offer(3, 4, 1), false);
    }

    /** "how many more can be .. NONE: none is" */
    private static void promise9Undo() {
        RentRiver river = Check.full();
        Seen before = Seen.of(river);
        check.due("undo() of none", river.undo(), -1);
        check.unchanged("undo() of none", before, river);
        river.offer(0, 0, 7);
        check.due("undo() of one", river.undo(), 0);
        check.unchanged("an offer undone", before, river);
        check.due("undo() of none", river.undo(), -1);
        river.offer(0, 0, 0);
        river.offer(0, 3, 9);
        river.offer(0, 3, 9);
        check.due("undo() of the same bid", river.undo(), 2);
        check.due("bid(0, 3)", river.bid(0, 3), 9);
        check.due("undo()", river.undo(), 1);
        check.due("undo()", river.undo(), 0);
        check.unchanged("offers undone", before, river);
        check.due("undo() of a new object", new RentRiver().undo(), -1);
    }

    /** "8 at most are kept" */
    private static void promise9Eight() {
        for (int offers = 7; offers <= 10; offers++) {
            RentRiver river = Check.river("town a 0 9 0 9;");
            for (int month = 0; month < offers; month++) {
                river.offer(0, month, 5);
            }
            int kept = Math.min(8, offers);
            for (int left = kept - 1; left >= 0; left--) {
                check.due("undo()", river.undo(), left);
                check.due("count(1)", river.count(1), offers - kept + left);
            }
            Seen before = Seen.of(river);
            check.due("undo() of one more", river.undo(), -1);
            check.unchanged("undo() of one more", before, river);
            // There is room for eight again.
            for (int month = 0; month < 8; month++) {
                river.offer(0, month, 6);
            }
            check.due("undo() of eight", river.undo(), 7);
        }
    }

    /** "The latest offer() that was done" */
    private static void promise9RefusedOffers() {
        RentRiver river = Check.river("town a 0 9 0 9;");
        river.offer(0, 0, 5);
        river.offer(0, 1, 1000);
        river.offer(1, 1, 5);
        river.offer(0, 12, 5);
        check.due("undo() past refused ones", river.undo(), 0);
        check.due("bid(0, 0)", river.bid(0, 0), 0);
        check.due("undo()", river.undo(), -1);
    }

    private static void promise10Water() {
        RentRiver river = Check.river("water 0 999;water 11 1;");
        check.due("water(0)", river.water(0), 999);
        check.due("water(11)", river.water(11), 1);
        check.due("water(5) without a row", river.water(5), 0);
        check.due("water(12)", river.water(12), -1);
        check.due("water(-1)", river.water(-1), -1);
        for (int far : FAR) {
            check.due("water(" + far + ")", river.water(far), -1);
        }
        check.due("water(0) of a new object", new RentRiver().water(0), 0);
    }

    /** "how many ROWS; -1 less the place of a FAULT: they stay" */
    private static void promise11Contracts() {
        RentRiver river = Check.full();
        Seen before = Seen.of(river);
        check.due("contracts() with a fault at 0", Check.contracts(river, "?"), -1);
        check.unchanged("contracts()", before, river);
        check.due("contracts() with a fault at its end", Check.contracts(river, "let 0 a 1;sea 1"), -16);
        check.unchanged("contracts()", before, river);
        check.due("contracts() with a fault at 400", Check.contracts(river, Check.times(" ", 401)), -401);
        check.unchanged("contracts()", before, river);
        check.due("contracts() of none", Check.contracts(river, ""), 0);
        check.due("count(5)", river.count(5), 0);
        check.due("contract(1, 0)", river.contract(1, 0), -1);
        StringBuilder twelve = new StringBuilder();
        for (int month = 0; month < 12; month++) {
            twelve.append("sea ").append(month).append(";");
        }
        check.due("contracts() of twelve", Check.contracts(river, twelve.toString()), 12);
        check.due("a thirteenth", Check.contracts(river, twelve + "sea 0;"), -1 - twelve.length() - 4);
        check.due("fault()", river.fault(), 3);
        check.due("a thirteenth of month 12", Check.contracts(river, twelve + "sea 12;"), -1 - twelve.length() - 4);
        check.due("fault()", river.fault(), 2);
        check.due("count(5)", river.count(5), 12);
        check.due("the year stays", river.year(0), 3);
    }

    /** "0 the TOWN (8: the SEA), 1 the other TOWN (NONE: none)", "NONE: there is none, no such ones" */
    private static void promise12Contract() {
        RentRiver river = Check.full();
        int[][] due = {{0, -1, -1, -1}, {1, 0, 1, 3}, {4, 8, -1, 0}, {11, -1, -1, -1}};
        for (int[] row : due) {
            for (int what = 0; what < 3; what++) {
                check.due("contract(" + row[0] + ", " + what + ")", river.contract(row[0], what), row[what + 1]);
            }
        }
        check.due("contract(1, 3)", river.contract(1, 3), -1);
        check.due("contract(1, -1)", river.contract(1, -1), -1);
        check.due("contract(12, 0)", river.contract(12, 0), -1);
        check.due("contract(-1, 0)", river.contract(-1, 0), -1);
        for (int far : FAR) {
            check.due("contract(" + far + ", 0)", river.contract(far, 0), -1);
            check.due("contract(1, " + far + ")", river.contract(1, far), -1);
        }
    }

    /** "false: there are no TOWNS" */
    private static void promise13Begin() {
        RentRiver river = Check.river("water 0 5;move 1;");
        Seen before = Seen.of(river);
        check.due("begin() without towns", river.begin(), false);
        check.unchanged("begin()", before, river);
        check.due("on(1)", river.on(1), -1);
        Check.plain(river, "town a 0 0 0 0;");
        check.due("begin() of one town", river.begin(), true);
        check.due("year(0)", river.year(0), 0);
    }

    /** "n (0 to 12) MONTHS: how many were done; NONE: not as told, no YEAR" */
    private static void promise14On() {
        RentRiver river = Check.full();
        Seen before = Seen.of(river);
        check.due("on(-1)", river.on(-1), -1);
        check.due("on(13)", river.on(13), -1);
        for (int far : FAR) {
            check.due("on(" + far + ")", river.on(far), -1);
        }
        check.due("on(0)", river.on(0), 0);
        check.unchanged("on()", before, river);
        check.due("on(8) of nine", river.on(8), 8);
        check.due("on(2) of one", river.on(2), 1);
        check.due("on(1) of none", river.on(1), 0);
        check.due("on(13) of none", river.on(13), -1);
        river.begin();
        check.due("on(12)", river.on(12), 12);
        river = Check.river("town a 0 0 0 0;");
        check.due("on(0) without a year", river.on(0), -1);
        check.due("on(12) without a year", river.on(12), -1);
    }

    /** "NONE - 1000: no YEAR, another what" */
    private static void promise15Year() {
        RentRiver river = Check.full();
        check.due("year(10)", river.year(10), 2 * 2 + 1);
        check.due("year(11)", river.year(11), -1001);
        check.due("year(-1)", river.year(-1), -1001);
        for (int far : FAR) {
            check.due("year(" + far + ")", river.year(far), -1001);
        }
        river = Check.river("town a 0 0 0 0;");
        for (int what = -1; what <= 11; what++) {
            check.due("year(" + what + ") without a year", river.year(what), -1001);
        }
    }

    private static void promise16Town() {
        RentRiver river = Check.full();
        check.due("town(1, 9)", river.town(1, 9), 0);
        check.due("town(1, 10)", river.town(1, 10), -1);
        check.due("town(1, -1)", river.town(1, -1), -1);
        check.due("town(2, 0)", river.town(2, 0), -1);
        check.due("town(-1, 0)", river.town(-1, 0), -1);
        for (int far : FAR) {
            check.due("town(" + far + ", 0)", river.town(far, 0), -1);
            check.due("town(0, " + far + ")", river.town(0, far), -1);
        }
        river = Check.river("town a 0 0 0 5;");
        for (int what = 0; what < 10; what++) {
            check.due("town(0, " + what + ") without a year", river.town(0, what), -1);
        }
    }

    /** "NONE, too: it is not done yet, no such ones" */
    private static void promise17Let() {
        RentRiver river = Check.full();
        int[][] due = {{0, 0, -1, 5}, {1, 0, 1, 3}, {2, 0, -1, 6}, {3, -1, -1, -1}, {11, -1, -1, -1}};
        for (int[] row : due) {
            for (int what = 0; what < 3; what++) {
                check.due("let(" + row[0] + ", " + what + ")", river.let(row[0], what), row[what + 1]);
            }
        }
        river.on(1);
        check.due("let(3, 0) to the sea", river.let(3, 0), 8);
        check.due("let(3, 1)", river.let(3, 1), -1);
        check.due("let(3, 2)", river.let(3, 2), 0);
        check.due("let(0, 3)", river.let(0, 3), -1);
        check.due("let(0, -1)", river.let(0, -1), -1);
        river.on(12);
        check.due("let(11, 0)", river.let(11, 0), 8);
        check.due("let(12, 0)", river.let(12, 0), -1);
        check.due("let(-1, 0)", river.let(-1, 0), -1);
        for (int far : FAR) {
            check.due("let(" + far + ", 0)", river.let(far, 0), -1);
            check.due("let(0, " + far + ")", river.let(0, far), -1);
        }
        river.begin();
        check.due("let(0, 0) of a year begun anew", river.let(0, 0), -1);
        check.due("let(0, 0) without a year", Check.river("town a 0 0 0 0;").let(0, 0), -1);
    }

    /** "so far", "NONE: no YEAR" */
    private static void promise18Droughts() {
        RentRiver river = Check.river("town a 0 9 0 9;bid a 1 9;bid a 2 1;");
        check.due("droughts() without a year", river.droughts(), -1);
        river.begin();
        check.due("droughts() of no month", river.droughts(), 0);
        river.on(1);
        check.due("droughts() of one month", river.droughts(), 1);
        river.on(1);
        check.due("droughts() of two", river.droughts(), 1);
        river.on(1);
        check.due("droughts() of three, an empty purse in the last", river.droughts(), 5);
        river.on(12);
        check.due("droughts() of all", river.droughts(), 4095 - 2);
        Check.plain(river, "town a 0 9 0 9;");
        check.due("droughts() without a year", river.droughts(), -1);
    }
}

/** What the tests share: answers compared with those that are due, and texts put on a tape. */
final class Check {
    private int wrong = 0;
    private int asked = 0;

    void due(String call, long got, long want) {
        asked++;
        if (got != want) {
            wrong++;
            System.out.println(call + " answered " + got + ", due is " + want);
        }
    }

    void due(String call, boolean got, boolean want) {
        due(call, got ? 1 : 0, want ? 1 : 0);
    }

    /** Behind a call that is refused: what all calls tell is what they told before. */
    void unchanged(String call, Seen before, RentRiver river) {
        due("nothing changed by " + call, before.same(Seen.of(river)), true);
    }

    /** Ends the test: with exit code 1, if an answer was not the one that is due. */
    void end() {
        if (asked == 0 || wrong != 0) {
            System.out.println(wrong + " of " + asked + " answers are not as due");
            System.exit(1);
        }
    }

    static void tape(RentRiver river, String text) {
        byte[] bytes = new byte[text.length()];
        for (int i = 0; i < bytes.length; i++) {
            bytes[i] = (byte) text.charAt(i);
        }
        tape(river, bytes);
    }

    /** Empties the tape and puts these bytes on it. */
    static void tape(RentRiver river, byte[] bytes) {
        river.end(0);
        for (int from = 0; from < bytes.length; from += 20) {
            int[] five = new int[5];
            for (int i = 0; i < 20; i++) {
                int value = from + i < bytes.length ? bytes[from + i] & 255 : 0;
                five[i / 4] |= value << 24 - i % 4 * 8;
            }
            if (river.feed(five[0], five[1], five[2], five[3], five[4]) == RentRiver.NONE) {
                throw new IllegalStateException("the tape is too short for the test's text");
            }
        }
        if (!river.end(bytes.length)) {
            throw new IllegalStateException("the tape does not end where the test's text does");
        }
    }

    static int plain(RentRiver river, String text) {
        tape(river, text);
        return river.plain();
    }

    static int contracts(RentRiver river, String text) {
        tape(river, text);
        return river.contracts();
    }

    static int sentence(RentRiver river, String text) {
        tape(river, text);
        return river.sentence();
    }

    static int leaks(RentRiver river, int... bytes) {
        byte[] row = new byte[bytes.length];
        for (int i = 0; i < row.length; i++) {
            row[i] = (byte) bytes[i];
        }
        tape(river, row);
        return river.leaks();
    }

    static RentRiver river(String text) {
        RentRiver river = new RentRiver();
        if (plain(river, text) < 0) {
            throw new IllegalStateException("the test's plain has a fault: " + text);
        }
        return river;
    }

    /** An object of which every call has something to tell, the fourth month of its YEAR being next. */
    static RentRiver full() {
        RentRiver river = river("town a 1 50 2 30;town b 2 60 1 40;water 0 20;water 2 30;bid a 0 5;"
            + "bid b 2 6;bid a 2 6;move 2;fish 9;patience 4;need a 3;bridge b 1;mill a 2;field b 1 3;");
        contracts(river, "let 1 a b 3;sea 4;");
        sentence(river, "paid > 6 and not place = 0 or purse < 28");
        river.begin();
        river.on(3);
        river.rounds(2);
        river.cheapest();
        leaks(river, 1, 0, 16, 0, 0);
        river.write();
        sentence(river, "shore or");
        return river;
    }

    static String written(RentRiver river) {
        StringBuilder text = new StringBuilder();
        int size = river.write();
        for (int i = 0; i < size; i++) {
            text.append((char) river.byteAt(i));
        }
        return text.toString();
    }

    /** The FAULT of a text, its kind and its place, as the three calls that read texts tell it. */
    void fault(RentRiver river, String text, int answer, int kind, int place) {
        String shown = text.length() > 60 ? text.substring(0, 60) + ".." : text;
        due("the place in '" + shown + "'", answer, -1 - place);
        due("the fault of '" + shown + "'", river.fault(), kind);
    }

    static String times(String text, int n) {
        return text.repeat(n);
    }
}

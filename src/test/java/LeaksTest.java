/** Promises 25 and 26: LEAKS told back by levels. */
public final class LeaksTest {
    private static final Check check = new Check();
    private static final String ONE = "town a 0 99 1 9;water 0 20;water 4 5;bid a 0 1;bid a 4 1;";

    public static void main(String[] args) {
        wrongTapes();
        oneTown();
        levelsOfTwoBytes();
        asMuchAsThereIs();
        whereNothingLeaks();
        aLeakThatTurnsTheLetting();
        theLatestStays();
        check.end();
    }

    private static void leak(RentRiver river, int k, int town, int month, int n) {
        check.due("leak(" + k + ", 0)", river.leak(k, 0), town);
        check.due("leak(" + k + ", 1)", river.leak(k, 1), month);
        check.due("leak(" + k + ", 2)", river.leak(k, 2), n);
    }

    private static void wrongTapes() {
        RentRiver river = Check.river(ONE);
        check.due("leak(0, 0) ahead of any", river.leak(0, 0), -1);
        check.due("leaks() of nothing", Check.leaks(river), -1);
        check.due("leaks() of a byte less", Check.leaks(river, 0, 0), -1);
        check.due("leaks() of a byte more", Check.leaks(river, 0, 0, 1, 1), -1);
        check.due("leaks() of month 12", Check.leaks(river, 12, 0, 1), -1);
        check.due("leaks() of month 255", Check.leaks(river, 255, 0, 1), -1);
        check.due("leaks() of a month twice", Check.leaks(river, 3, 0, 1, 3, 0, 1), -1);
        check.due("leaks() of months that fall", Check.leaks(river, 3, 0, 1, 2, 0, 1), -1);
        int[] thirteen = new int[39];
        for (int i = 0; i < 13; i++) {
            thirteen[3 * i] = i;
        }
        check.due("leaks() of 13 months", Check.leaks(river, thirteen), -1);
        check.due("leak(0, 0) ahead of any", river.leak(0, 0), -1);
    }

    private static void oneTown() {
        RentRiver river = Check.river(ONE);
        // Without a leak 19, 18, 17, 16, 20, 19, ..
        check.due("leaks()", Check.leaks(river, 2, 0, 13), 2);
        leak(river, 0, 0, 1, 2);
        leak(river, 1, 0, 2, 4);
        check.due("leak(2, 0)", river.leak(2, 0), -1);
        check.due("leak(-1, 0)", river.leak(-1, 0), -1);
        check.due("leak(0, 3)", river.leak(0, 3), -1);
        check.due("leak(0, -1)", river.leak(0, -1), -1);
        check.due("leaks() of two months", Check.leaks(river, 1, 0, 18, 2, 0, 13), 1);
        leak(river, 0, 0, 2, 4);
        check.due("leaks() of the later month alone", Check.leaks(river, 2, 0, 13), 2);
        check.due("leaks() that can't be", Check.leaks(river, 1, 0, 19), 0);
        check.due("leak(0, 0)", river.leak(0, 0), -1);
        check.due("no year by it", river.year(0), -1001);
    }

    private static void levelsOfTwoBytes() {
        RentRiver river = Check.river("town a 0 999 0 9;town b 0 999 0 9;water 3 600;bid b 3 1;");
        check.due("leaks() from 600 to 597", Check.leaks(river, 3, 0, 0, 2, 85), 4);
        leak(river, 0, 1, 0, 3);
        leak(river, 3, 1, 3, 3);
        check.due("leaks() of bytes above 127", Check.leaks(river, 3, 0, 0, 2, 213), 0);
        check.due("leaks() of a level that can't be", Check.leaks(river, 3, 255, 255, 2, 85), 0);
    }

    private static void asMuchAsThereIs() {
        RentRiver river = Check.river("town a 0 99 0 9;water 0 5;bid a 0 1;");
        // From 5 to nothing in one month: 5 to 9 of month 0 (9 is more than there is).
        check.due("leaks()", Check.leaks(river, 0, 0, 0), 5);
        leak(river, 0, 0, 0, 5);
        leak(river, 4, 0, 0, 9);
    }

    private static void whereNothingLeaks() {
        RentRiver river = Check.river("town a 0 99 0 9;town b 0 99 0 9;water 5 5;bid a 5 1;");
        // Up to month 4 there is nothing to lose: all leaks of both towns are like none.
        check.due("leaks() of empty ponds", Check.leaks(river, 4, 0, 0, 0, 0), 216);
        leak(river, 0, 0, 0, 1);
        leak(river, 8, 0, 0, 9);
        leak(river, 9, 0, 1, 1);
        leak(river, 39, 0, 4, 4);
        check.due("leak(40, 0)", river.leak(40, 0), -1);
        // Behind month 5: a must not leak up to then; b may at any time.
        check.due("leaks() of a full pond", Check.leaks(river, 5, 0, 5, 0, 0), 54 + 108);
        leak(river, 0, 0, 6, 1);
        check.due("leaks() of month 11", Check.leaks(river, 11, 0, 5, 0, 0), 108);
        leak(river, 0, 1, 0, 1);
    }

    private static void aLeakThatTurnsTheLetting() {
        // Without a leak a lives by 12 of month 0 for six months and takes month 3 from b.
        RentRiver river = Check.river("town a 0 99 2 9;town b 0 99 0 9;water 0 12;water 3 7;"
            + "bid a 0 1;bid a 3 2;bid b 3 1;patience 1;");
        check.due("leaks()", Check.leaks(river, 3, 0, 0, 0, 7), 9);
        // Losing 4 to 9 from month 0 on, or 7 to 9 from month 1 on, a is a shore by month 2.
        for (int n = 4; n <= 9; n++) {
            leak(river, n - 4, 0, 0, n);
        }
        for (int n = 7; n <= 9; n++) {
            leak(river, n - 1, 0, 1, n);
        }
        Check.contracts(river, "let 3 a 0;");
        check.due("leaks() by contracts", Check.leaks(river, 3, 0, 11, 0, 0), 72 + 108);
        river.offer(0, 0, 0);
        check.due("leaks() by bids", Check.leaks(river, 3, 0, 0, 0, 0), 216);
    }

    private static void theLatestStays() {
        RentRiver river = Check.river(ONE);
        check.due("leaks()", Check.leaks(river, 2, 0, 13), 2);
        check.due("leaks() that is NONE", Check.leaks(river, 12, 0, 13), -1);
        leak(river, 1, 0, 2, 4);
        Check.plain(river, "");
        leak(river, 1, 0, 2, 4);
    }
}

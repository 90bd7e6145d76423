/** Promises 41 and 42: images. */
public final class ImageTest {
    private static final Check check = new Check();
    private static final String PLAIN = "town a 1 50 2 30;town b 2 60 1 40;water 0 20;water 2 30;"
        + "bid a 0 5;bid b 2 6;move 2;fish 9;patience 4;need a 3;bridge b 1;";
    private static final String OTHER = "town c 0 9 0 9;water 5 5;move 7;";

    public static void main(String[] args) {
        wrongPlaces();
        allIsKept();
        twoPlaces();
        noYear();
        whatStays();
        imagesStandAlone();
        check.end();
    }

    private static void wrongPlaces() {
        RentRiver river = Check.river(PLAIN);
        check.due("restore(0) of nothing", river.restore(0), false);
        check.due("restore(1) of nothing", river.restore(1), false);
        check.due("image(2)", river.image(2), false);
        check.due("image(-1)", river.image(-1), false);
        check.due("image(1)", river.image(1), true);
        check.due("restore(0) of nothing", river.restore(0), false);
        check.due("restore(2)", river.restore(2), false);
        check.due("restore(-1)", river.restore(-1), false);
        check.due("count(0)", river.count(0), 2);
    }

    /** All that an image keeps, as one number a part. */
    private static long[] shown(RentRiver river) {
        long[] parts = new long[6];
        for (int town = 0; town < river.count(0); town++) {
            for (int what = 0; what < 9; what++) {
                parts[0] = parts[0] * 31 + river.told(town, what);
            }
            for (int month = 0; month < 12; month++) {
                parts[1] = parts[1] * 31 + river.bid(town, month);
            }
            for (int what = 0; what < 10; what++) {
                parts[2] = parts[2] * 31 + river.town(town, what);
            }
        }
        for (int month = 0; month < 12; month++) {
            for (int what = 0; what < 3; what++) {
                parts[3] = parts[3] * 31 + river.contract(month, what);
                parts[2] = parts[2] * 31 + river.let(month, what);
            }
            parts[0] = parts[0] * 31 + river.water(month);
        }
        for (int what = 0; what < 6; what++) {
            parts[4] = parts[4] * 31 + river.count(what);
        }
        for (int what = 0; what < 11; what++) {
            parts[2] = parts[2] * 31 + river.year(what);
        }
        for (int k = -1; k < 8; k++) {
            parts[5] = parts[5] * 31 + river.said(k);
        }
        for (int i = river.write(); i >= 0; i--) {
            parts[5] = parts[5] * 31 + river.byteAt(i);
        }
        return parts;
    }

    private static void same(String what, long[] got, long[] due) {
        for (int i = 0; i < due.length; i++) {
            check.due(what + ", part " + i, got[i], due[i]);
        }
    }

    private static RentRiver full() {
        RentRiver river = Check.river(PLAIN);
        Check.contracts(river, "let 1 a b 3;sea 4;");
        Check.sentence(river, "paid > 6 and not place = 0 or purse < 25");
        river.offer(1, 5, 7);
        river.begin();
        river.on(3);
        return river;
    }

    private static void allIsKept() {
        RentRiver river = full();
        long[] before = shown(river);
        check.due("image(0)", river.image(0), true);
        river.on(5);
        river.offer(0, 0, 0);
        river.contracts();
        Check.sentence(river, "dry < 9 and not pond > 3 or lets = 7");
        Check.plain(river, OTHER);
        Check.contracts(river, "let 0 c 1;let 1 c 2;let 2 c 3;");
        Check.sentence(river, "dry < 9 and not pond > 3 or lets = 7");
        river.begin();
        river.on(6);
        check.due("restore(0)", river.restore(0), true);
        same("restored", shown(river), before);
        check.due("it goes on", river.on(12), 9);
        RentRiver straight = full();
        straight.on(12);
        same("gone on", shown(river), shown(straight));
        check.due("the names are kept", Check.contracts(river, "let 0 a b 1;"), 1);
    }

    private static void twoPlaces() {
        RentRiver river = full();
        long[] first = shown(river);
        river.image(0);
        Check.plain(river, OTHER);
        river.begin();
        long[] second = shown(river);
        river.image(1);
        river.restore(0);
        same("the first", shown(river), first);
        river.restore(1);
        same("the second", shown(river), second);
        river.restore(0);
        same("the first again", shown(river), first);
        river.image(1);
        Check.plain(river, OTHER);
        river.restore(1);
        same("the second place anew", shown(river), first);
    }

    private static void noYear() {
        RentRiver river = Check.river(PLAIN);
        river.image(0);
        river.begin();
        river.on(4);
        Check.sentence(river, "shore");
        Check.contracts(river, "sea 1;");
        river.restore(0);
        check.due("year(0)", river.year(0), -1001);
        check.due("count(5)", river.count(5), 0);
        river.begin();
        check.due("said(-1)", river.said(-1), -1);
        RentRiver empty = new RentRiver();
        check.due("image(0) of a new object", empty.image(0), true);
        Check.plain(empty, PLAIN);
        check.due("restore(0)", empty.restore(0), true);
        check.due("count(0)", empty.count(0), 0);
        check.due("count(4)", empty.count(4), 3);
    }

    private static void whatStays() {
        RentRiver river = full();
        river.image(0);
        river.write();
        river.rounds(1);
        river.cheapest();
        Check.leaks(river, 11, 0, 0, 0, 0);
        Check.sentence(river, "oops");
        int[] before = {river.fault(), river.has(0), river.price(0), river.plan(0), river.byteAt(0),
            river.leak(0, 1)};
        river.feed(1, 2, 3, 4, 5);
        river.offer(0, 0, 9);
        river.restore(0);
        int[] behind = {river.fault(), river.has(0), river.price(0), river.plan(0), river.byteAt(0),
            river.leak(0, 1)};
        for (int i = 0; i < before.length; i++) {
            check.due("what was told last, " + i, behind[i], before[i]);
        }
        check.due("count(6)", river.count(6), 20);
        check.due("undo()", river.undo(), -1);
        check.due("bid(0, 0)", river.bid(0, 0), 5);
        check.due("take()", river.take(), true);
    }

    private static void imagesStandAlone() {
        RentRiver river = full();
        river.image(0);
        long[] before = shown(river);
        river.restore(0);
        river.on(4);
        river.offer(0, 3, 77);
        Check.contracts(river, "sea 0;");
        Check.sentence(river, "shore or dry > 0");
        river.restore(0);
        same("kept as it was", shown(river), before);
    }
}

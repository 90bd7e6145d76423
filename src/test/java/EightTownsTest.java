/** Every call with as many towns and bids as there can be, so that no row is too short. */
public final class EightTownsTest {
    private static final Check check = new Check();

    public static void main(String[] args) {
        StringBuilder text = new StringBuilder();
        for (int town = 0; town < 8; town++) {
            text.append("town ").append((char) ('a' + town)).append(" 0 99 1 99;");
        }
        for (int i = 0; i < 40; i++) {
            text.append("bid ").append((char) ('a' + i % 8)).append(' ').append(i / 8).append(" 1;");
        }
        text.append("water 0 8;need h 9;patience 2;");
        RentRiver river = Check.river(text.toString());
        check.due("count(0)", river.count(0), 8);
        check.due("count(1)", river.count(1), 40);
        check.due("greatest(4)", river.greatest(4), 0);
        check.due("bidsOf(7)", river.bidsOf(7), 5);
        check.due("told(7, 4)", river.told(7, 4), 9);
        check.due("contracts()", Check.contracts(river, "let 0 h a 3;let 1 g 1;sea 11;"), 3);
        check.due("shoresOf()", river.shoresOf(), 255);
        check.due("thirsty()", river.thirsty(), 128);
        check.due("worth(7)", river.worth(7), 0);
        check.due("worth(8)", river.worth(8), -10001);
        check.due("must(7, 0)", river.must(7, 0), -1);
        check.due("must(6, 1)", river.must(6, 1), 1);
        check.due("must(7, 2)", river.must(7, 2), 2);
        check.due("must(5, 2), a shore", river.must(5, 2), -1);
        check.due("rounds(1)", river.rounds(1), 2);
        check.due("has(0)", river.has(0), 0);
        check.due("has(4)", river.has(4), 4);
        check.due("has(7)", river.has(7), -1);
        check.due("cheapest()", river.cheapest(), -2);
        check.due("begin()", river.begin(), true);
        check.due("on(12)", river.on(12), 12);
        check.due("let(0, 0)", river.let(0, 0), 7);
        check.due("let(0, 1)", river.let(0, 1), 0);
        check.due("town(7, 6)", river.town(7, 6), 4);
        check.due("year(4)", river.year(4), 8);
        check.due("year(5)", river.year(5), 8);
        check.due("said(-1)", river.said(-1), -1);
        check.due("sentence()", Check.sentence(river, "shore and place > 6"), 2);
        check.due("said(0)", river.said(0), 7);
        int[] levels = new int[12 * 17];
        for (int month = 0; month < 12; month++) {
            levels[17 * month] = month;
            levels[17 * month + 2] = Math.max(0, 3 - month);
            levels[17 * month + 16] = Math.max(0, 3 - month);
        }
        check.due("leaks()", Check.leaks(river, levels), 6 * 108 + 2 * 81);
        check.due("leak(0, 1)", river.leak(0, 1), 3);
        check.due("leak(39, 0)", river.leak(39, 0), 0);
        check.due("image(1)", river.image(1), true);
        check.due("plain() of nothing", river.plain(), 0);
        check.due("restore(1)", river.restore(1), true);
        check.due("town(7, 6)", river.town(7, 6), 4);
        check.due("shores(7, 100, 5)", river.shores(7, 100, 5) >= 0, true);
        check.due("drawn(5)", river.drawn(5) > -10001, true);
        check.end();
    }
}

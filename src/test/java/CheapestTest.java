import java.util.Random;

/** Promises 19 to 21: all towns watered cheapest, the plan, and taking it. */
public final class CheapestTest {
    private static final Check check = new Check();

    public static void main(String[] args) {
        wrongAsks();
        smallOnes();
        ties();
        taking();
        againstAllPlans();
        check.end();
    }

    private static void plan(RentRiver river, int... due) {
        for (int month = 0; month < 12; month++) {
            int want = month < due.length ? due[month] : due[due.length - 1];
            check.due("plan(" + month + ")", river.plan(month), want);
        }
    }

    private static void wrongAsks() {
        RentRiver river = new RentRiver();
        check.due("cheapest() without towns", river.cheapest(), -2);
        check.due("plan(0) ahead of any", river.plan(0), -1);
        check.due("take() ahead of any", river.take(), false);
        Check.plain(river, "town a 0 0 0 0;town b 0 0 0 0;town c 0 0 0 0;town d 0 0 0 0;");
        check.due("cheapest() of four", river.cheapest(), -2);
        Check.plain(river, "town a 5 0 0 0;need a 1;water 0 5;water 1 4;");
        check.due("cheapest() that can't be", river.cheapest(), -1);
        check.due("plan(0)", river.plan(0), -1);
    }

    private static void smallOnes() {
        // No needs: the river stays in the sea, unless a town costs nothing.
        RentRiver river = Check.river("town a 0 0 0 0;town b 0 0 0 0;move 1;");
        check.due("cheapest()", river.cheapest(), 0);
        plan(river, 8);
        check.due("plan(12)", river.plan(12), -1);
        check.due("plan(-1)", river.plan(-1), -1);
        river = Check.river("town a 0 0 0 0;town b 0 0 0 0;bridge a 1;");
        check.due("cheapest()", river.cheapest(), 0);
        plan(river, 1);
        // SEEP counts each month anew, STORE and USE don't count.
        river = Check.river("town a 2 0 99 0;need a 16;water 3 9;water 8 11;move 4;bridge a 3;");
        check.due("cheapest()", river.cheapest(), 7);
        plan(river, 0);
        river = Check.river("town a 2 0 99 0;need a 17;water 3 9;water 8 11;move 4;bridge a 3;");
        check.due("cheapest()", river.cheapest(), -1);
        // b is nearer to the sea and comes first; a as soon as b has enough.
        river = Check.river("town a 0 9 0 0;town b 0 9 0 0;need a 1;need b 1;water 0 1;water 11 1;"
            + "move 10;bridge a 1;bridge b 2;");
        check.due("cheapest()", river.cheapest(), 23);
        plan(river, 1, 0);
        // Two visits of a, with its bridge each time.
        river = Check.river("town a 0 9 0 0;town b 9 9 0 0;need a 2;need b 1;water 0 1;water 5 10;"
            + "water 11 1;move 1;bridge a 20;bridge b 5;");
        check.due("cheapest()", river.cheapest(), 49);
        plan(river, 0, 0, 0, 0, 0, 1, 0);
    }

    private static void ties() {
        RentRiver river = Check.river("town a 0 9 0 0;town b 0 9 0 0;town c 0 9 0 0;need b 3;need c 4;"
            + "water 2 4;water 4 4;water 7 4;");
        check.due("cheapest()", river.cheapest(), 0);
        plan(river, 0, 0, 0, 0, 1, 0, 0, 2, 0);
    }

    private static void taking() {
        RentRiver river = Check.river("town a 0 9 0 9;town b 0 9 0 9;need a 1;need b 1;water 0 1;"
            + "water 11 1;move 10;bid b 0 7;bid a 0 8;bid a 11 4;bid b 11 3;");
        Check.contracts(river, "sea 0;");
        river.cheapest();
        river.offer(0, 1, 2);
        river.begin();
        river.on(1);
        check.due("take()", river.take(), true);
        check.due("count(5)", river.count(5), 12);
        check.due("contract(0, 0)", river.contract(0, 0), 1);
        check.due("contract(0, 1)", river.contract(0, 1), -1);
        check.due("contract(0, 2)", river.contract(0, 2), 7);
        check.due("contract(1, 2)", river.contract(1, 2), 2);
        check.due("contract(2, 2)", river.contract(2, 2), 0);
        check.due("contract(11, 0)", river.contract(11, 0), 0);
        check.due("contract(11, 2)", river.contract(11, 2), 4);
        check.due("the year goes on", river.on(12), 11);
        check.due("let(0, 0)", river.let(0, 0), 8);
        check.due("let(5, 0)", river.let(5, 0), 0);
        river.image(0);
        check.due("plain()", Check.plain(river, "town a 0 9 0 9;town b 0 9 0 9;need a 1;"), 3);
        check.due("plan(0) of the latest", river.plan(0), 1);
        check.due("take() of another plain", river.take(), false);
        check.due("cheapest() that can't be", river.cheapest(), -1);
        check.due("take() of another plain", river.take(), false);
        river.restore(0);
        check.due("take() of a plain restored", river.take(), true);
        String same = "town a 0 9 0 9;move 1;";
        Check.plain(river, same);
        check.due("cheapest()", river.cheapest(), 0);
        check.due("take() of the sea", river.take(), true);
        check.due("contract(3, 0)", river.contract(3, 0), 8);
        check.due("contract(3, 2)", river.contract(3, 2), 0);
        Check.plain(river, same);
        check.due("take() of the text read anew", river.take(), false);
        check.due("count(5)", river.count(5), 0);
        Check.plain(river, "town a 0 9 0 9;oops");
        river.cheapest();
        Check.plain(river, "oops");
        check.due("take() behind a text with a fault", river.take(), true);
    }

    /** Every plan of every town and the sea, the first one first: slow, but plain. */
    private static final class AllPlans {
        private final int towns;
        private final int move;
        private final int[] bridges;
        private final int[][] gains;
        private final int[] lacks;
        private final int[] path = new int[12];
        private int[] best = null;
        private int paid = Integer.MAX_VALUE;

        AllPlans(int towns, int move, int[] bridges, int[][] gains, int[] needs) {
            this.towns = towns;
            this.move = move;
            this.bridges = bridges;
            this.gains = gains;
            this.lacks = needs.clone();
        }

        void search(int month, int at, int sum) {
            if (sum >= paid) {
                return;
            }
            if (month == 12) {
                for (int town = 0; town < towns; town++) {
                    if (lacks[town] > 0) {
                        return;
                    }
                }
                paid = sum;
                best = path.clone();
                return;
            }
            for (int to = 0; to <= towns; to++) {
                path[month] = to == towns ? 8 : to;
                int cost = move * Math.abs(to - at) + (to == at || to == towns ? 0 : bridges[to]);
                if (to < towns) {
                    lacks[to] -= gains[to][month];
                }
                search(month + 1, to, sum + cost);
                if (to < towns) {
                    lacks[to] += gains[to][month];
                }
            }
        }
    }

    private static void againstAllPlans() {
        Random random = new Random(7);
        for (int i = 0; i < 60; i++) {
            int towns = 1 + random.nextInt(i < 6 ? 3 : 2);
            int move = random.nextInt(4);
            int most = 1 + random.nextInt(30);
            StringBuilder text = new StringBuilder("move " + move + ";");
            int[] water = new int[12];
            for (int month = 0; month < 12; month++) {
                water[month] = random.nextInt(3) == 0 ? 0 : random.nextInt(most);
                text.append("water ").append(month).append(' ').append(water[month]).append(';');
            }
            int[] bridges = new int[towns];
            int[] needs = new int[towns];
            int[][] gains = new int[towns][12];
            for (int town = 0; town < towns; town++) {
                int seep = random.nextInt(4);
                bridges[town] = random.nextInt(4);
                needs[town] = random.nextInt(most * 4);
                String name = "t" + "abc".charAt(town);
                text.append("town ").append(name).append(' ').append(seep).append(" 0 0 0;bridge ");
                text.append(name).append(' ').append(bridges[town]).append(";need ").append(name);
                text.append(' ').append(needs[town]).append(';');
                for (int month = 0; month < 12; month++) {
                    gains[town][month] = Math.max(0, water[month] - seep);
                }
            }
            AllPlans all = new AllPlans(towns, move, bridges, gains, needs);
            all.search(0, towns, 0);
            RentRiver river = Check.river(text.toString());
            check.due("cheapest() of " + text, river.cheapest(), all.best == null ? -1 : all.paid);
            for (int month = 0; month < 12; month++) {
                int due = all.best == null ? -1 : all.best[month];
                check.due("plan(" + month + ") of " + text, river.plan(month), due);
            }
        }
    }
}

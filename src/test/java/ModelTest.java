import java.util.NoSuchElementException;
import java.util.Random;

/** All promises: random runs of calls, compared with the model. */
public final class ModelTest {
    private static final int RUNS = 250;
    private static final int CALLS = 512;
    private static final String[] NAMES = {"a", "b", "cc", "dam", "eel", "fen", "gorge", "hillside"};

    private final Random random;
    private final RentRiver river = new RentRiver();
    private final Model model = new Model();
    private final Check check;
    private final int run;
    private int towns = 0;
    private int calls = 0;

    private ModelTest(int run, Check check) {
        this.run = run;
        this.check = check;
        this.random = new Random(run);
    }

    public static void main(String[] args) {
        Check check = new Check();
        int runs = args.length > 0 ? Integer.parseInt(args[0]) : RUNS;
        for (int run = 0; run < runs; run++) {
            new ModelTest(run, check).go();
        }
        check.end();
    }

    private void due(String call, long got, long want) {
        calls++;
        check.due("run " + run + ", call " + calls + ": " + call, got, want);
    }

    private void due(String call, boolean got, boolean want) {
        due(call, got ? 1 : 0, want ? 1 : 0);
    }

    private boolean one(int of) {
        return random.nextInt(of) == 0;
    }

    /** A number from 0 on below n, and now and then one just outside. */
    private int about(int n) {
        return one(12) ? (one(2) ? -1 : n) : random.nextInt(Math.max(1, n));
    }

    private void put(String text) {
        for (int from = 0; from < text.length(); from += 20) {
            int[] five = new int[5];
            for (int i = 0; i < 20; i++) {
                int value = from + i < text.length() ? text.charAt(from + i) : random.nextInt(256);
                five[i / 4] |= value << 24 - i % 4 * 8;
            }
            due("feed", river.feed(five[0], five[1], five[2], five[3], five[4]),
                model.feed(five[0], five[1], five[2], five[3], five[4]));
        }
        due("end", river.end(text.length()), model.end(text.length()));
    }

    private String small(int most) {
        return String.valueOf(random.nextInt(one(3) ? most + 1 : Math.min(most, 30) + 1));
    }

    private String plainText() {
        StringBuilder text = new StringBuilder();
        int many = one(3) ? 1 + random.nextInt(8) : 1 + random.nextInt(3);
        for (int i = 0; i < many; i++) {
            text.append("town ").append(NAMES[i]).append(' ').append(small(20)).append(' ');
            text.append(small(999)).append(' ').append(small(20)).append(' ').append(small(999)).append(';');
        }
        for (int month = 0; month < 12; month++) {
            if (!one(3)) {
                text.append("water ").append(month).append(' ').append(small(120)).append(';');
            }
        }
        for (int i = 0; i < many * 9 && text.length() < 850; i++) {
            String name = NAMES[random.nextInt(many)];
            String month = String.valueOf(random.nextInt(12));
            String bid = "bid " + name + " " + month + " ";
            if (text.indexOf(bid) < 0) {
                text.append(bid).append(1 + random.nextInt(one(3) ? 999 : 40)).append(';');
            }
        }
        String[] once = {"need", "mill", "bridge"};
        for (int i = 0; i < many && text.length() < 850; i++) {
            for (String word : once) {
                if (one(2)) {
                    text.append(word).append(' ').append(NAMES[i]).append(' ').append(small(20)).append(';');
                }
            }
            if (one(2)) {
                text.append("field ").append(NAMES[i]).append(' ').append(small(9)).append(" 9;");
            }
        }
        if (!one(3)) {
            text.append("move ").append(small(9)).append(";fish ").append(small(50));
            text.append(";patience ").append(1 + random.nextInt(5)).append(';');
        }
        return text.toString();
    }

    private String contractsText() {
        StringBuilder text = new StringBuilder();
        for (int month = 0; month < 12; month++) {
            if (one(3)) {
                int town = random.nextInt(Math.max(1, towns));
                int other = random.nextInt(Math.max(1, towns));
                if (one(4)) {
                    text.append("sea ").append(month).append(';');
                } else {
                    text.append("let ").append(month).append(' ').append(NAMES[town]).append(' ');
                    text.append(town != other && one(2) ? NAMES[other] + " " : "");
                    text.append(small(99)).append(';');
                }
            }
        }
        return text.toString();
    }

    private String one(int depth, int tries) {
        int kind = random.nextInt(8);
        if (kind == 0 && tries > 0) {
            return "not " + one(depth + 1, tries - 1);
        }
        if (kind <= 2 && tries > 0) {
            return "(" + cond(depth + 1, tries - 1) + ")";
        }
        if (kind == 3) {
            return one(2) ? "shore" : "thirsty";
        }
        String[] measures = {"pond", "purse", "paid", "dry", "lets", "green", "place"};
        return measures[random.nextInt(7)] + " " + "<=>".charAt(random.nextInt(3)) + small(12);
    }

    private String cond(int depth, int tries) {
        StringBuilder text = new StringBuilder(one(depth, tries));
        while (one(2)) {
            text.append(one(2) ? " and " : " or ").append(one(depth, tries));
        }
        return text.toString();
    }

    /** Spoils a text now and then, at one place. */
    private String spoilt(String text, int most) {
        String whole = text.substring(0, Math.min(text.length(), 940));
        if (one(6) && whole.length() < most) {
            // Blanks up to about the most bytes, so that the end is beyond it or just not.
            int to = Math.min(940, most - 4 + random.nextInt(9));
            int at = random.nextInt(whole.length() + 1);
            at = Math.max(whole.lastIndexOf(';', at), whole.lastIndexOf(' ', at)) + 1;
            String blanks = " ".repeat(Math.max(0, to - whole.length()));
            return whole.substring(0, at) + blanks + whole.substring(at);
        }
        if (one(3) && !whole.isEmpty()) {
            int at = random.nextInt(whole.length());
            String signs = "abz019; <=>().\n\t#town";
            String sign = String.valueOf(signs.charAt(random.nextInt(signs.length())));
            String behind = whole.substring(one(2) ? at : at + 1);
            String made = whole.substring(0, at) + (one(4) ? "" : sign) + behind;
            return made.substring(0, Math.min(made.length(), 940));
        }
        if (one(6)) {
            return whole.substring(0, random.nextInt(whole.length() + 1));
        }
        return whole;
    }

    private void readPlain() {
        String text = spoilt(plainText(), 900);
        put(text);
        due("plain() of " + text, river.plain(), model.plain());
        due("fault()", river.fault(), model.fault());
        towns = model.count(0);
    }

    private void readContracts() {
        String text = spoilt(contractsText(), 400);
        put(text);
        due("contracts() of " + text, river.contracts(), model.contracts());
        due("fault()", river.fault(), model.fault());
    }

    private void readSentence() {
        String text = spoilt(cond(1, random.nextInt(9)), 200);
        put(text);
        due("sentence() of " + text, river.sentence(), model.sentence());
        due("fault()", river.fault(), model.fault());
        for (int k = -1; k < 3; k++) {
            due("said", river.said(k), model.said(k));
        }
    }

    /** Levels of a year in which a pond may leak, told by a river of its own kind. */
    private void readLevels() {
        StringBuilder text = new StringBuilder();
        int from = random.nextInt(12);
        int leaky = random.nextInt(Math.max(1, towns));
        int loss = random.nextInt(10);
        if (!model.begin() || !river.begin()) {
            return;
        }
        for (int month = 0; month < 12; month++) {
            river.on(1);
            model.on(1);
            if (one(month < 2 ? 6 : 3)) {
                text.append((char) (one(20) ? month + 1 : month));
                for (int town = 0; town < towns; town++) {
                    int level = model.town(town, 0);
                    if (town == leaky && month >= from) {
                        level = Math.max(0, level - loss * (month - from + 1));
                    }
                    text.append((char) (level >> 8)).append((char) (level & 255));
                }
            }
        }
        if (one(10)) {
            text.append('x');
        }
        put(text.toString());
        due("leaks()", river.leaks(), model.leaks());
        for (int k = 0; k < 41; k += 1 + random.nextInt(9)) {
            for (int what = 0; what < 3; what++) {
                due("leak", river.leak(k, what), model.leak(k, what));
            }
        }
    }

    private void tell() {
        int town = about(towns);
        int what = about(9);
        int got = -7;
        int want = -7;
        try {
            got = river.told(town, what);
        } catch (NoSuchElementException e) {
            got = -8;
        }
        try {
            want = model.told(town, what);
        } catch (NoSuchElementException e) {
            want = -8;
        }
        due("told(" + town + ", " + what + ")", got, want);
    }

    private void go() {
        while (calls < CALLS) {
            int kind = random.nextInt(40);
            if (kind < 14) {
                change(kind);
            } else {
                ask(kind);
            }
        }
    }

    private void change(int kind) {
        int town = about(towns);
        int month = about(12);
        int n = about(one(3) ? 1000 : 40);
        switch (kind) {
            case 0: readPlain(); break;
            case 1: readContracts(); break;
            case 2: readSentence(); break;
            case 3: readLevels(); break;
            case 4: case 5: case 6:
                due("offer(" + town + ", " + month + ", " + n + ")", river.offer(town, month, n),
                    model.offer(town, month, n));
                break;
            case 7: due("undo()", river.undo(), model.undo()); break;
            case 8: due("begin()", river.begin(), model.begin()); break;
            case 9: case 10: due("on(" + month + ")", river.on(month), model.on(month)); break;
            case 11: due("image", river.image(n % 3), model.image(n % 3)); break;
            case 12: due("restore", river.restore(n % 3), model.restore(n % 3)); towns = model.count(0); break;
            default: due("take()", river.take(), model.take()); break;
        }
    }

    private void ask(int kind) {
        int town = about(towns);
        int month = about(12);
        int what = about(11);
        switch (kind) {
            case 14: tell(); break;
            case 15: due("bid", river.bid(town, month), model.bid(town, month)); break;
            case 16: due("water", river.water(month), model.water(month)); break;
            case 17: due("contract", river.contract(month, what % 4), model.contract(month, what % 4)); break;
            case 18: case 19: due("year " + what, river.year(what), model.year(what)); break;
            case 20: case 21: due("town " + what, river.town(town, what), model.town(town, what)); break;
            case 22: due("let", river.let(month, what % 4), model.let(month, what % 4)); break;
            case 23: due("droughts()", river.droughts(), model.droughts()); break;
            case 24: askPlan(); break;
            case 25: askRounds(); break;
            case 26: due("wettest", river.wettest(town), model.wettest(town)); break;
            case 27: due("enough", river.enough(town), model.enough(town)); break;
            case 28: due("shoresOf()", river.shoresOf(), model.shoresOf()); break;
            case 29: due("thirsty()", river.thirsty(), model.thirsty()); break;
            case 30: due("bidsOf", river.bidsOf(town), model.bidsOf(town)); break;
            case 31: due("greatest", river.greatest(month), model.greatest(month)); break;
            case 32: askText(); break;
            case 33: due("worth", river.worth(town), model.worth(town)); break;
            case 34: due("drawn", river.drawn(month * 77), model.drawn(month * 77)); break;
            case 35: due("shores", river.shores(town, what, month), model.shores(town, what, month)); break;
            case 36: due("must " + town + " " + month, river.must(town, month), model.must(town, month)); break;
            case 37: due("said", river.said(town - 1), model.said(town - 1)); break;
            case 38: due("count", river.count(what % 8), model.count(what % 8)); break;
            default: due("fault()", river.fault(), model.fault()); break;
        }
    }

    private void askPlan() {
        // The model's way is slow with many towns and much water.
        if (towns < 3 || one(4)) {
            due("cheapest()", river.cheapest(), model.cheapest());
        }
        for (int month = -1; month < 13; month++) {
            due("plan(" + month + ")", river.plan(month), model.plan(month));
        }
    }

    private void askRounds() {
        int step = about(one(2) ? 100 : 5);
        due("rounds(" + step + ")", river.rounds(step), model.rounds(step));
        for (int i = 0; i < 12; i++) {
            due("has(" + i + ")", river.has(i), model.has(i));
            due("price(" + i + ")", river.price(i), model.price(i));
        }
    }

    private void askText() {
        int size = model.write();
        due("write()", river.write(), size);
        for (int i = -1; i <= size; i += 1 + random.nextInt(4)) {
            due("byteAt(" + i + ")", river.byteAt(i), model.byteAt(i));
        }
    }
}

import java.util.ArrayDeque;
import java.util.ArrayList;
import java.util.Arrays;
import java.util.Deque;
import java.util.HashMap;
import java.util.HashSet;
import java.util.LinkedHashMap;
import java.util.List;
import java.util.Map;
import java.util.NoSuchElementException;
import java.util.Set;
import java.util.function.BiPredicate;

/**
 * The document again, written another way and without thought for room or speed, for random runs
 * to be compared with.
 */
final class Model {
    private static final Set<String> WORDS = new HashSet<>(Arrays.asList(("town water bid need mill "
        + "bridge field move fish patience let sea or and not shore thirsty pond purse paid dry lets "
        + "green place").split(" ")));

    /** A FAULT on the way out of a text. */
    private static final class Fault extends Exception {
        private static final long serialVersionUID = 1;
        final int kind;
        final int place;

        Fault(int kind, int place) {
            this.kind = kind;
            this.place = place;
        }
    }

    private static final class Token {
        final String text;
        final int place;

        Token(String text, int place) {
            this.text = text;
            this.place = place;
        }

        boolean isWord() {
            return text.matches("[a-z]{1,8}");
        }

        boolean isNumber() {
            return text.matches("[0-9]{1,3}");
        }
    }

    /** The TOKENS of a text; the last one is empty, where the text ends or grows too long. */
    private static List<Token> tokens(String text, int most) {
        List<Token> tokens = new ArrayList<>();
        int at = 0;
        while (at < text.length() && at < most) {
            char c = text.charAt(at);
            if (c == ' ' || c == '\n') {
                at++;
                continue;
            }
            int end = at;
            while (end < text.length() && String.valueOf(text.charAt(end)).matches("[a-z0-9]")) {
                end++;
            }
            end = Math.max(end, at + 1);
            tokens.add(new Token(text.substring(at, end), at));
            at = end;
        }
        tokens.add(new Token("", Math.min(most, text.length())));
        return tokens;
    }

    private static final class Reader {
        final List<Token> tokens;
        final boolean tooLong;
        int next = 0;

        Reader(String text, int most) {
            tokens = tokens(text, most);
            tooLong = text.length() > most;
        }

        Token peek() {
            return tokens.get(next);
        }

        Token any() {
            Token token = tokens.get(next);
            if (next < tokens.size() - 1) {
                next++;
            }
            return token;
        }

        boolean atEnd() throws Fault {
            boolean end = peek().text.isEmpty();
            if (end && tooLong) {
                throw new Fault(1, peek().place);
            }
            return end;
        }

        void sign(String sign) throws Fault {
            Token token = any();
            if (!token.text.equals(sign)) {
                throw new Fault(1, token.place);
            }
        }

        int number(int least, int most) throws Fault {
            Token token = any();
            if (!token.isNumber()) {
                throw new Fault(1, token.place);
            }
            int n = Integer.parseInt(token.text);
            if (n < least || n > most) {
                throw new Fault(2, token.place);
            }
            return n;
        }

        Token name() throws Fault {
            Token token = any();
            if (!token.isWord() || WORDS.contains(token.text)) {
                throw new Fault(1, token.place);
            }
            return token;
        }

        int last() {
            return tokens.get(next - 1).place;
        }
    }

    private static final class Town {
        String name;
        final int[] told = new int[9];
        final Map<Integer, Integer> bids = new HashMap<>();

        Town copy() {
            Town town = new Town();
            town.name = name;
            System.arraycopy(told, 0, town.told, 0, 9);
            town.bids.putAll(bids);
            return town;
        }
    }

    private static final class Land {
        final List<Town> towns = new ArrayList<>();
        final int[] water = new int[12];
        int move = 0;
        int fish = 0;
        int patience = 3;
        Object mark = new Object();

        Land copy() {
            Land land = new Land();
            for (Town town : towns) {
                land.towns.add(town.copy());
            }
            System.arraycopy(water, 0, land.water, 0, 12);
            land.move = move;
            land.fish = fish;
            land.patience = patience;
            land.mark = mark;
            return land;
        }

        int bids() {
            int all = 0;
            for (Town town : towns) {
                all += town.bids.size();
            }
            return all;
        }

        int named(Token token) throws Fault {
            for (int i = 0; i < towns.size(); i++) {
                if (towns.get(i).name.equals(token.text)) {
                    return i;
                }
            }
            throw new Fault(3, token.place);
        }
    }

    /** A row of CONTRACTS. */
    private static final class Deal {
        final int town;
        final int other;
        final int sum;

        Deal(int town, int other, int sum) {
            this.town = town;
            this.other = other;
            this.sum = sum;
        }
    }

    private static final class Run {
        int months = 0;
        int lies = 8;
        int treasury = 0;
        int fish = 0;
        int rained = 0;
        int used = 0;
        int seeped = 0;
        int sea = 0;
        int lettings = 0;
        int moves = 0;
        final int[][] of;
        final String[] green;
        final List<Deal> lets = new ArrayList<>();

        Run(Land land) {
            fish = land.fish;
            of = new int[land.towns.size()][10];
            green = new String[of.length];
            for (int i = 0; i < of.length; i++) {
                of[i][1] = land.towns.get(i).told[3];
                green[i] = "";
            }
        }

        Run(Run from) {
            months = from.months;
            lies = from.lies;
            treasury = from.treasury;
            fish = from.fish;
            rained = from.rained;
            used = from.used;
            seeped = from.seeped;
            sea = from.sea;
            lettings = from.lettings;
            moves = from.moves;
            of = new int[from.of.length][];
            for (int i = 0; i < of.length; i++) {
                of[i] = from.of[i].clone();
            }
            green = from.green.clone();
            lets.addAll(from.lets);
        }

        private boolean has(int town, int sum) {
            return of[town][3] == 0 && of[town][1] >= sum;
        }

        private Deal letting(Land land, Map<Integer, Deal> deals) {
            Deal nobody = new Deal(8, -1, 0);
            Deal deal = deals.get(months);
            if (deal == null) {
                Deal best = nobody;
                for (int i = 0; i < of.length; i++) {
                    Integer bid = land.towns.get(i).bids.get(months);
                    if (bid != null && has(i, bid) && bid > best.sum) {
                        best = new Deal(i, -1, bid);
                    }
                }
                return best;
            }
            if (deal.town == 8) {
                return nobody;
            }
            if (deal.other == -1) {
                return has(deal.town, deal.sum) ? deal : nobody;
            }
            boolean both = has(deal.town, (deal.sum + 1) / 2) && has(deal.other, deal.sum / 2);
            return both ? deal : nobody;
        }

        private void pay(int town, int sum) {
            of[town][1] -= sum;
            of[town][5] += sum;
            of[town][4]++;
        }

        private void water(Land land, int town, int n) {
            int left = n;
            for (int i = 0; i < land.towns.get(town).told[0] && left > 0; i++) {
                left--;
                seeped++;
            }
            while (left > 0 && of[town][0] < land.towns.get(town).told[1]) {
                left--;
                of[town][0]++;
                of[town][6]++;
            }
            sea += left;
            of[town][1] += land.towns.get(town).told[5];
        }

        private void bridge(Land land, int town) {
            Deal ahead = months == 0 ? new Deal(8, -1, 0) : lets.get(months - 1);
            if (ahead.town != town && ahead.other != town) {
                moves += land.towns.get(town).told[6];
            }
        }

        void month(Land land, Map<Integer, Deal> deals, int more, int leaky, int loss) {
            Deal deal = letting(land, deals);
            int rain = land.water[months] + more;
            rained += rain;
            int from = lies == 8 ? of.length : lies;
            int to = deal.town == 8 ? of.length : deal.town;
            int way = from > to ? from - to : to - from;
            int paidBefore = moves;
            moves += way * land.move;
            if (deal.town == 8) {
                sea += rain;
            } else if (deal.other == -1) {
                bridge(land, deal.town);
                pay(deal.town, deal.sum);
                water(land, deal.town, rain);
            } else {
                bridge(land, deal.town);
                bridge(land, deal.other);
                pay(deal.town, deal.sum - deal.sum / 2);
                pay(deal.other, deal.sum / 2);
                water(land, deal.town, rain - rain / 2);
                water(land, deal.other, rain / 2);
            }
            lettings += deal.town == 8 ? 0 : 1;
            treasury += deal.sum - (moves - paidBefore);
            fish = fish > way ? fish - way : 0;
            lies = deal.town;
            lets.add(deal);
            for (int i = 0; i < of.length; i++) {
                live(land, i);
            }
            if (leaky >= 0) {
                of[leaky][0] = Math.max(0, of[leaky][0] - loss);
            }
            months++;
            if (months == 12) {
                for (int i = 0; i < of.length; i++) {
                    of[i][9] = of[i][8] * land.towns.get(i).told[8];
                    of[i][1] += of[i][9];
                }
            }
        }

        private void live(Land land, int i) {
            int[] told = land.towns.get(i).told;
            if (of[i][0] < told[2]) {
                of[i][2]++;
                of[i][7]++;
                used += of[i][0];
                of[i][0] = 0;
                if (of[i][2] >= land.patience) {
                    of[i][3] = 1;
                }
            } else {
                of[i][2] = 0;
                used += told[2];
                of[i][0] -= told[2];
            }
            boolean isGreen = told[7] > 0 && of[i][0] >= told[7];
            if (isGreen) {
                used += told[7];
                of[i][0] -= told[7];
            }
            green[i] += isGreen ? "g" : "-";
            for (String row : green[i].split("-")) {
                of[i][8] = Math.max(of[i][8], row.length());
            }
        }

        Run whole(Land land, Map<Integer, Deal> deals) {
            while (months < 12) {
                month(land, deals, 0, -1, 0);
            }
            return this;
        }
    }

    private static final class Kept {
        Land land;
        Map<Integer, Deal> deals;
        BiPredicate<Land, Object[]> sentence;
        Run run;
    }

    private String tape = "";
    private Land land = new Land();
    private Map<Integer, Deal> deals = new LinkedHashMap<>();
    private BiPredicate<Land, Object[]> sentence = null;
    private Run run = null;
    private int fault = 0;
    private final Deque<Runnable> undo = new ArrayDeque<>();
    private int[] plan = null;
    private Object planOf = null;
    private int[] has = null;
    private int[] prices = null;
    private List<int[]> leaks = new ArrayList<>();
    private String text = "";
    private final Kept[] images = new Kept[2];

    private boolean isTown(int town) {
        return town >= 0 && town < land.towns.size();
    }

    private static boolean isMonth(int month) {
        return month >= 0 && month <= 11;
    }

    int feed(int a, int b, int c, int d, int e) {
        if (tape.length() > 920) {
            return -1;
        }
        for (int n : new int[] {a, b, c, d, e}) {
            for (int i = 3; i >= 0; i--) {
                tape += (char) (n >> 8 * i & 255);
            }
        }
        return tape.length();
    }

    boolean end(int n) {
        if (n < 0 || n > tape.length()) {
            return false;
        }
        tape = tape.substring(0, n);
        return true;
    }

    private String takeTape() {
        String whole = tape;
        tape = "";
        return whole;
    }

    private int faulty(Fault f) {
        fault = f.kind;
        return -1 - f.place;
    }

    int plain() {
        try {
            Reader reader = new Reader(takeTape(), 900);
            Land read = new Land();
            Set<String> once = new HashSet<>();
            int rows = 0;
            while (!reader.atEnd()) {
                row(reader, read, once);
                reader.sign(";");
                rows++;
            }
            land = read;
            deals = new LinkedHashMap<>();
            sentence = null;
            run = null;
            undo.clear();
            fault = 0;
            return rows;
        } catch (Fault f) {
            return faulty(f);
        }
    }

    private void first(Set<String> once, String what, int place) throws Fault {
        if (!once.add(what)) {
            throw new Fault(3, place);
        }
    }

    private void row(Reader reader, Land read, Set<String> once) throws Fault {
        Token word = reader.any();
        switch (word.text) {
            case "town":
                if (read.towns.size() == 8) {
                    throw new Fault(4, word.place);
                }
                Town town = new Town();
                Token name = reader.name();
                first(once, "name " + name.text, name.place);
                town.name = name.text;
                int[] most = {99, 999, 99, 999};
                for (int i = 0; i < 4; i++) {
                    town.told[i] = reader.number(0, most[i]);
                }
                read.towns.add(town);
                return;
            case "water":
                int month = reader.number(0, 11);
                first(once, "water " + month, reader.last());
                read.water[month] = reader.number(0, 999);
                return;
            case "bid":
                if (read.bids() == 40) {
                    throw new Fault(4, word.place);
                }
                int who = read.named(reader.name());
                int when = reader.number(0, 11);
                first(once, "bid " + who + " " + when, reader.last());
                read.towns.get(who).bids.put(when, reader.number(1, 999));
                return;
            case "need": case "mill": case "bridge": case "field":
                int index = Arrays.asList("need", "mill", "bridge", "field").indexOf(word.text) + 4;
                int of = read.named(reader.name());
                first(once, word.text + " " + of, reader.last());
                read.towns.get(of).told[index] = reader.number(0, index == 4 ? 999 : 99);
                if (index == 7) {
                    read.towns.get(of).told[8] = reader.number(0, 99);
                }
                return;
            case "move":
                first(once, "move", word.place);
                read.move = reader.number(0, 99);
                return;
            case "fish":
                first(once, "fish", word.place);
                read.fish = reader.number(0, 999);
                return;
            case "patience":
                first(once, "patience", word.place);
                read.patience = reader.number(1, 12);
                return;
            default:
                throw new Fault(1, word.place);
        }
    }

    int fault() {
        return fault;
    }

    int told(int town, int what) {
        if (!isTown(town) || what < 0 || what > 8) {
            throw new NoSuchElementException();
        }
        return land.towns.get(town).told[what];
    }

    int bid(int town, int month) {
        return isTown(town) && isMonth(month) ? land.towns.get(town).bids.getOrDefault(month, 0) : -1;
    }

    private static void put(Town town, int month, int n) {
        if (n == 0) {
            town.bids.remove(month);
        } else {
            town.bids.put(month, n);
        }
    }

    boolean offer(int town, int month, int n) {
        if (!isTown(town) || !isMonth(month) || n < 0 || n > 999) {
            return false;
        }
        Town its = land.towns.get(town);
        int before = bid(town, month);
        put(its, month, n);
        if (land.bids() > 40) {
            put(its, month, before);
            return false;
        }
        undo.push(() -> put(its, month, before));
        if (undo.size() > 8) {
            undo.removeLast();
        }
        return true;
    }

    int undo() {
        if (undo.isEmpty()) {
            return -1;
        }
        undo.pop().run();
        return undo.size();
    }

    int water(int month) {
        return isMonth(month) ? land.water[month] : -1;
    }

    int contracts() {
        try {
            Reader reader = new Reader(takeTape(), 400);
            Map<Integer, Deal> read = new LinkedHashMap<>();
            while (!reader.atEnd()) {
                Token word = reader.any();
                if (!word.text.equals("let") && !word.text.equals("sea")) {
                    throw new Fault(1, word.place);
                }
                int month = reader.number(0, 11);
                if (read.containsKey(month)) {
                    throw new Fault(3, reader.last());
                }
                Deal deal = new Deal(8, -1, 0);
                if (word.text.equals("let")) {
                    int town = land.named(reader.name());
                    int other = -1;
                    if (reader.peek().isWord()) {
                        other = land.named(reader.name());
                        if (other == town) {
                            throw new Fault(3, reader.last());
                        }
                    }
                    deal = new Deal(town, other, reader.number(0, 999));
                }
                read.put(month, deal);
                reader.sign(";");
            }
            deals = read;
            fault = 0;
            return read.size();
        } catch (Fault f) {
            return faulty(f);
        }
    }

    private static int part(Deal deal, int what) {
        return what == 0 ? deal.town : what == 1 ? deal.other : what == 2 ? deal.sum : -1;
    }

    int contract(int month, int what) {
        return deals.containsKey(month) ? part(deals.get(month), what) : -1;
    }

    boolean begin() {
        if (land.towns.isEmpty()) {
            return false;
        }
        run = new Run(land);
        return true;
    }

    int on(int n) {
        if (run == null || n < 0 || n > 12) {
            return -1;
        }
        int done = 0;
        while (done < n && run.months < 12) {
            run.month(land, deals, 0, -1, 0);
            done++;
        }
        return done;
    }

    int year(int what) {
        if (run == null || what < 0 || what > 10) {
            return -1001;
        }
        int ponds = 0;
        for (int[] its : run.of) {
            ponds += its[0];
        }
        return new int[] {run.months, run.lies, run.treasury, run.fish, run.rained, run.used,
            run.seeped, run.sea, ponds, run.lettings, run.moves}[what];
    }

    int town(int town, int what) {
        return run != null && isTown(town) && what >= 0 && what < 10 ? run.of[town][what] : -1;
    }

    int let(int month, int what) {
        return run != null && month >= 0 && month < run.months ? part(run.lets.get(month), what) : -1;
    }

    int droughts() {
        if (run == null) {
            return -1;
        }
        int bits = 0;
        for (int i = 0; i < run.months; i++) {
            bits += run.lets.get(i).town == 8 ? 1 << i : 0;
        }
        return bits;
    }

    private int gain(int town, int month) {
        return Math.max(0, land.water[month] - land.towns.get(town).told[0]);
    }

    /** Month by month, the first of the cheapest ways to each state of needs that can still be. */
    int cheapest() {
        int n = land.towns.size();
        if (n == 0 || n > 3) {
            return -2;
        }
        Map<List<Integer>, int[]> ways = new LinkedHashMap<>();
        List<Integer> start = new ArrayList<>();
        start.add(n);
        for (Town town : land.towns) {
            start.add(town.told[4]);
        }
        ways.put(start, new int[13]);
        for (int month = 0; month < 12; month++) {
            Map<List<Integer>, int[]> next = new LinkedHashMap<>();
            for (Map.Entry<List<Integer>, int[]> way : ways.entrySet()) {
                for (int to = 0; to <= n; to++) {
                    int at = way.getKey().get(0);
                    List<Integer> key = new ArrayList<>(way.getKey());
                    int[] row = way.getValue().clone();
                    key.set(0, to);
                    row[month] = to;
                    row[12] += land.move * Math.abs(to - at);
                    if (to < n) {
                        row[12] += to == at ? 0 : land.towns.get(to).told[6];
                        key.set(to + 1, Math.max(0, key.get(to + 1) - gain(to, month)));
                    }
                    int[] there = next.get(key);
                    if (there == null || better(row, there)) {
                        next.put(key, row);
                    }
                }
            }
            ways = next;
        }
        int[] best = null;
        for (int to = 0; to <= n; to++) {
            List<Integer> key = new ArrayList<>();
            key.add(to);
            for (int i = 0; i < n; i++) {
                key.add(0);
            }
            int[] row = ways.get(key);
            if (row != null && (best == null || better(row, best))) {
                best = row;
            }
        }
        if (best == null) {
            return -1;
        }
        plan = best;
        for (int i = 0; i < 12; i++) {
            plan[i] = plan[i] == n ? 8 : plan[i];
        }
        planOf = land.mark;
        return plan[12];
    }

    private static boolean better(int[] row, int[] than) {
        if (row[12] != than[12]) {
            return row[12] < than[12];
        }
        return Arrays.compare(row, than) < 0;
    }

    int plan(int month) {
        return plan != null && isMonth(month) ? plan[month] : -1;
    }

    boolean take() {
        if (plan == null || planOf != land.mark) {
            return false;
        }
        deals = new LinkedHashMap<>();
        for (int i = 0; i < 12; i++) {
            deals.put(i, new Deal(plan[i], -1, plan[i] == 8 ? 0 : bid(plan[i], i)));
        }
        return true;
    }

    int rounds(int step) {
        if (step < 1 || step > 99 || land.towns.isEmpty()) {
            return -1;
        }
        has = new int[8];
        prices = new int[12];
        Arrays.fill(has, -1);
        int rounds = 0;
        boolean took = true;
        while (took && rounds < 1000) {
            took = false;
            rounds++;
            for (int t = 0; t < land.towns.size(); t++) {
                if (has[t] != -1) {
                    continue;
                }
                int best = -1;
                int left = 0;
                int owner = -1;
                for (int m = 11; m >= 0; m--) {
                    int holder = -1;
                    for (int u = 0; u < 8; u++) {
                        holder = has[u] == m ? u : holder;
                    }
                    int worth = bid(t, m) - prices[m] - (holder == -1 ? 0 : step);
                    if (worth > 0 && worth >= left) {
                        best = m;
                        left = worth;
                        owner = holder;
                    }
                }
                if (best != -1) {
                    took = true;
                    if (owner != -1) {
                        prices[best] += step;
                        has[owner] = -1;
                    }
                    has[t] = best;
                }
            }
        }
        return rounds;
    }

    int has(int town) {
        return has != null && town >= 0 && town < 8 ? has[town] : -1;
    }

    int price(int month) {
        return prices != null && isMonth(month) ? prices[month] : -1;
    }

    int leaks() {
        String levels = takeTape();
        int size = 1 + 2 * land.towns.size();
        int many = levels.length() / size;
        if (many == 0 || many > 12 || levels.length() % size != 0) {
            return -1;
        }
        for (int i = 0; i < many; i++) {
            int month = levels.charAt(i * size);
            if (month > 11 || i > 0 && month <= levels.charAt((i - 1) * size)) {
                return -1;
            }
        }
        leaks = new ArrayList<>();
        for (int town = 0; town < land.towns.size(); town++) {
            for (int month = 0; month < 12; month++) {
                for (int n = 1; n < 10; n++) {
                    if (comes(levels, size, town, month, n)) {
                        leaks.add(new int[] {town, month, n});
                    }
                }
            }
        }
        return leaks.size();
    }

    private boolean comes(String levels, int size, int town, int from, int n) {
        Run tried = new Run(land);
        for (int month = 0; month < 12; month++) {
            tried.month(land, deals, 0, month >= from ? town : -1, n);
            for (int i = 0; i < levels.length(); i += size) {
                for (int t = 0; levels.charAt(i) == month && t < land.towns.size(); t++) {
                    int level = levels.charAt(i + 1 + 2 * t) * 256 + levels.charAt(i + 2 + 2 * t);
                    if (level != tried.of[t][0]) {
                        return false;
                    }
                }
            }
        }
        return true;
    }

    int leak(int k, int what) {
        boolean told = k >= 0 && k < 40 && k < leaks.size() && what >= 0 && what < 3;
        return told ? leaks.get(k)[what] : -1;
    }

    int wettest(int town) {
        if (!isTown(town)) {
            return -1;
        }
        int best = 11;
        for (int m = 11; m >= 0; m--) {
            int seep = land.towns.get(town).told[0];
            best = land.water[m] - seep >= land.water[best] - seep ? m : best;
        }
        return best;
    }

    int enough(int town) {
        if (!isTown(town)) {
            return -1;
        }
        int fewest = 13;
        for (int set = 0; set < 4096; set++) {
            int sum = 0;
            for (int m = 0; m < 12; m++) {
                sum += (set >> m & 1) * gain(town, m);
            }
            if (sum >= land.towns.get(town).told[4]) {
                fewest = Math.min(fewest, Integer.bitCount(set));
            }
        }
        return fewest == 13 ? -1 : fewest;
    }

    int shoresOf() {
        if (land.towns.isEmpty()) {
            return -1;
        }
        Run tried = new Run(land).whole(land, deals);
        int bits = 0;
        for (int i = 0; i < tried.of.length; i++) {
            bits += tried.of[i][3] << i;
        }
        return bits;
    }

    int thirsty() {
        if (land.towns.isEmpty()) {
            return -1;
        }
        Run tried = new Run(land).whole(land, deals);
        int bits = 0;
        for (int i = 0; i < tried.of.length; i++) {
            bits += tried.of[i][6] < land.towns.get(i).told[4] ? 1 << i : 0;
        }
        return bits;
    }

    int bidsOf(int town) {
        return isTown(town) ? land.towns.get(town).bids.values().stream().mapToInt(n -> n).sum() : -1;
    }

    int greatest(int month) {
        int who = -1;
        for (int i = land.towns.size() - 1; i >= 0 && isMonth(month); i--) {
            who = bid(i, month) > 0 && (who == -1 || bid(i, month) >= bid(who, month)) ? i : who;
        }
        return who;
    }

    int write() {
        if (run == null) {
            return -1;
        }
        text = "";
        for (int i = 0; i < run.months; i++) {
            Deal deal = run.lets.get(i);
            String who = deal.town == 8 ? "sea" : land.towns.get(deal.town).name;
            String other = deal.other == -1 ? "" : " " + land.towns.get(deal.other).name;
            text += i + " " + who + other + " " + deal.sum + ";";
        }
        return text.length();
    }

    int byteAt(int i) {
        return i >= 0 && i < text.length() ? text.charAt(i) : -1;
    }

    int worth(int town) {
        if (!isTown(town)) {
            return -10001;
        }
        Land without = land.copy();
        without.towns.get(town).bids.clear();
        return new Run(land).whole(land, deals).treasury
            - new Run(without).whole(without, deals).treasury;
    }

    private Run drawnRun(int seed) {
        Run tried = new Run(land);
        int x = seed;
        while (tried.months < 12) {
            x = (int) (x * 1103515245L + 12345L);
            tried.month(land, deals, (int) ((x & 0xffffffffL) / 256 % 100), -1, 0);
        }
        return tried;
    }

    int drawn(int seed) {
        return land.towns.isEmpty() ? -10001 : drawnRun(seed).treasury;
    }

    int shores(int town, int n, int seed) {
        if (!isTown(town) || n < 1 || n > 100) {
            return -1;
        }
        int years = 0;
        for (int i = 0; i < n; i++) {
            years += drawnRun(seed + i).of[town][3];
        }
        return years;
    }

    int must(int town, int month) {
        if (!isTown(town) || !isMonth(month)) {
            return -1;
        }
        Land other = land.copy();
        for (int n = 1; n <= 999; n++) {
            other.towns.get(town).bids.put(month, n);
            Deal deal = new Run(other).whole(other, deals).lets.get(month);
            if (deal.town == town && deal.other == -1) {
                return n;
            }
        }
        return -1;
    }

    private int ones;

    int sentence() {
        try {
            Reader reader = new Reader(takeTape(), 200);
            ones = 0;
            BiPredicate<Land, Object[]> read = cond(reader, 1);
            if (!reader.atEnd()) {
                throw new Fault(1, reader.peek().place);
            }
            sentence = read;
            fault = 0;
            return ones;
        } catch (Fault f) {
            return faulty(f);
        }
    }

    private BiPredicate<Land, Object[]> cond(Reader reader, int depth) throws Fault {
        BiPredicate<Land, Object[]> left = all(reader, depth);
        if (reader.peek().text.equals("or")) {
            reader.any();
            return left.or(cond(reader, depth));
        }
        return left;
    }

    private BiPredicate<Land, Object[]> all(Reader reader, int depth) throws Fault {
        BiPredicate<Land, Object[]> left = one(reader, depth);
        if (reader.peek().text.equals("and")) {
            reader.any();
            return left.and(all(reader, depth));
        }
        return left;
    }

    private BiPredicate<Land, Object[]> one(Reader reader, int depth) throws Fault {
        List<String> measures = Arrays.asList("pond", "purse", "paid", "dry", "lets", "green", "place");
        int[] whats = {0, 1, 5, 7, 4, 8, -1};
        Token token = reader.any();
        int measure = measures.indexOf(token.text);
        if (measure < 0 && !Arrays.asList("not", "(", "shore", "thirsty").contains(token.text)) {
            throw new Fault(1, token.place);
        }
        if (depth > 8 || ones == 20) {
            throw new Fault(4, token.place);
        }
        ones++;
        switch (token.text) {
            case "not":
                return one(reader, depth + 1).negate();
            case "(":
                BiPredicate<Land, Object[]> inner = cond(reader, depth + 1);
                reader.sign(")");
                return inner;
            case "shore":
                return (of, x) -> ((Run) x[0]).of[(Integer) x[1]][3] == 1;
            case "thirsty":
                return (of, x) -> ((Run) x[0]).of[(Integer) x[1]][6]
                    < of.towns.get((Integer) x[1]).told[4];
            default:
                Token sign = reader.any();
                if (!sign.text.matches("[<=>]")) {
                    throw new Fault(1, sign.place);
                }
                int n = reader.number(0, 999);
                int what = whats[measure];
                int want = sign.text.equals("<") ? -1 : sign.text.equals("=") ? 0 : 1;
                return (of, x) -> Integer.compare(what < 0 ? (Integer) x[1]
                    : ((Run) x[0]).of[(Integer) x[1]][what], n) == want;
        }
    }

    int said(int k) {
        if (sentence == null || run == null || k < -1) {
            return -1;
        }
        List<Integer> who = new ArrayList<>();
        for (int i = 0; i < land.towns.size(); i++) {
            if (sentence.test(land, new Object[] {run, i})) {
                who.add(i);
            }
        }
        return k == -1 ? who.size() : k < who.size() ? who.get(k) : -1;
    }

    boolean image(int k) {
        if (k != 0 && k != 1) {
            return false;
        }
        images[k] = new Kept();
        images[k].land = land.copy();
        images[k].deals = new LinkedHashMap<>(deals);
        images[k].sentence = sentence;
        images[k].run = run == null ? null : new Run(run);
        return true;
    }

    boolean restore(int k) {
        if (k != 0 && k != 1 || images[k] == null) {
            return false;
        }
        land = images[k].land.copy();
        deals = new LinkedHashMap<>(images[k].deals);
        sentence = images[k].sentence;
        run = images[k].run == null ? null : new Run(images[k].run);
        undo.clear();
        return true;
    }

    int count(int what) {
        if (what < 0 || what > 6) {
            return -1;
        }
        return new int[] {land.towns.size(), land.bids(), land.move, land.fish, land.patience,
            deals.size(), tape.length()}[what];
    }
}
